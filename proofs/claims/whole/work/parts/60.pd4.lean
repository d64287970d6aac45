noncomputable def addA (y : Nat × (Nat → AS)) (b : AS) : Nat × (Nat → AS) := @ite _ (3000 < y.1 ∨ ∃ i, i < y.1 ∧ eqv (y.2 i) b) (Classical.propDecidable _) y (y.1 + 1, fun i => if i = y.1 then b else y.2 i)
noncomputable def vA (P : PR) (b : AS) (y : Nat × (Nat → AS)) : Nat → (Nat × (Nat → AS)) × Nat
  | 0 => (y, 0)
  | c + 1 => if aMay P b (c / 4) (c % 4) = 0 then vA P b y c else (addA (vA P b y c).1 (aTak P b (c / 4) (c % 4)), (vA P b y c).2 + 1)
theorem addA_le (y : Nat × (Nat → AS)) (b : AS) : y.1 ≤ (addA y b).1 ∧ (addA y b).1 ≤ y.1 + 1 := by
  unfold addA; split <;> simp
theorem addA_cap {y : Nat × (Nat → AS)} (h : y.1 ≤ 3001) (b : AS) : (addA y b).1 ≤ 3001 := by
  unfold addA
  split
  · exact h
  · rename_i q
    have : ¬ 3000 < y.1 := fun e => q (Or.inl e)
    show y.1 + 1 ≤ 3001; omega
theorem addA_lo (y : Nat × (Nat → AS)) (b : AS) {i : Nat} (h : i < y.1) : (addA y b).2 i = y.2 i := by
  unfold addA
  split
  · rfl
  · show (if i = y.1 then b else y.2 i) = _; rw [if_neg (by omega)]
theorem vA_le {P : PR} {b : AS} {y : Nat × (Nat → AS)} : ∀ c, y.1 ≤ (vA P b y c).1.1 ∧ (∀ i, i < y.1 → (vA P b y c).1.2 i = y.2 i) ∧ (vA P b y c).2 ≤ c
  | 0 => ⟨Nat.le_refl _, fun _ _ => rfl, Nat.le_refl _⟩
  | c + 1 => by
    obtain ⟨h1, h2, h3⟩ := vA_le (P := P) (b := b) (y := y) c
    rw [vA]
    split
    · exact ⟨h1, h2, by omega⟩
    · have := addA_le (vA P b y c).1 (aTak P b (c / 4) (c % 4))
      exact ⟨by show y.1 ≤ (addA (vA P b y c).1 (aTak P b (c / 4) (c % 4))).1; omega, fun i hi => by
        show (addA (vA P b y c).1 (aTak P b (c / 4) (c % 4))).2 i = _
        rw [addA_lo _ _ (by omega)]; exact h2 i hi, by show (vA P b y c).2 + 1 ≤ c + 1; omega⟩
theorem vA_mono {P : PR} {b : AS} {y : Nat × (Nat → AS)} (c : Nat) : (vA P b y c).1.1 ≤ (vA P b y (c + 1)).1.1 := by
  rw [vA]
  split
  · exact Nat.le_refl _
  · exact (addA_le _ _).1
theorem vA_mono' {P : PR} {b : AS} {y : Nat × (Nat → AS)} : ∀ (d c : Nat), (vA P b y c).1.1 ≤ (vA P b y (c + d)).1.1
  | 0, c => Nat.le_refl _
  | d + 1, c => Nat.le_trans (vA_mono' d c) (vA_mono (c + d))
theorem vA_cap {P : PR} {b : AS} {y : Nat × (Nat → AS)} (h : y.1 ≤ 3001) : ∀ c, (vA P b y c).1.1 ≤ 3001
  | 0 => h
  | c + 1 => by
    rw [vA]
    split
    · exact vA_cap h c
    · exact addA_cap (vA_cap h c) _
def VF (x x' : KM2) : Prop := (∀ c, ¬ c = 38 → ¬ c = 40 → ¬ (24 ≤ c ∧ c < 28) → ¬ (30 ≤ c ∧ c < 32) → ¬ (34 ≤ c ∧ c < 36) → x'.2.1 c = x.2.1 c) ∧ (∀ c, ¬ c = 39 → x'.2.2 c = x.2.2 c) ∧ (∀ c, ¬ c = 39 → ¬ c = 40 → x'.1 c = x.1 c) ∧ (capE (x'.1 40)) ∧ (x'.1 39 = x'.1 40 * 3) ∧ (x.1 40 ≤ x'.1 40)
theorem VF.iv {x x' : KM2} (h9 : VF x x') : ∀ c, ¬ c = 38 → ¬ c = 40 → ¬ (24 ≤ c ∧ c < 28) → ¬ (30 ≤ c ∧ c < 32) → ¬ (34 ≤ c ∧ c < 36) → x'.2.1 c = x.2.1 c := h9.1
theorem VF.lv {x x' : KM2} (h9 : VF x x') : ∀ c, ¬ c = 39 → x'.2.2 c = x.2.2 c := h9.2.1
theorem VF.ln {x x' : KM2} (h9 : VF x x') : ∀ c, ¬ c = 39 → ¬ c = 40 → x'.1 c = x.1 c := h9.2.2.1
theorem VF.e {x x' : KM2} (h9 : VF x x') : capE (x'.1 40) := h9.2.2.2.1
theorem VF.l39 {x x' : KM2} (h9 : VF x x') : x'.1 39 = x'.1 40 * 3 := h9.2.2.2.2.1
theorem VF.le {x x' : KM2} (h9 : VF x x') : x.1 40 ≤ x'.1 40 := h9.2.2.2.2.2
theorem VF.trans {x y z : KM2} (h : VF x y) (h' : VF y z) : VF x z :=
  ⟨fun c h1 h2 h3 h4 h5 => by rw [h'.iv c h1 h2 h3 h4 h5, h.iv c h1 h2 h3 h4 h5],
   fun c h1 => by rw [h'.lv c h1, h.lv c h1],
   fun c h1 h2 => by rw [h'.ln c h1 h2, h.ln c h1 h2],
   h'.e,
   h'.l39,
   Nat.le_trans h.le h'.le⟩
theorem FR.vf {ln : Nat → Nat} {iv iv' : Nat → Nat → Int32} {lv : Nat → Nat → Int64} (h : FR 1 iv iv') (he : capE (ln 40)) (hl : ln 39 = ln 40 * 3) : VF (ln, iv, lv) (ln, iv', lv) :=
  ⟨fun c _ _ h3 h4 h5 => h c h3 h4 h5,
   fun _ _ => rfl,
   fun _ _ _ => rfl,
   he,
   hl,
   Nat.le_refl _⟩
theorem KF.vf {x x' : KM2} (h : KF x x') : VF x x' :=
  ⟨fun c h1 h2 _ _ _ => h.iv c h1 h2,
   h.lv,
   h.ln,
   h.e,
   h.l39,
   h.le⟩
theorem CP.vf {x x' : KM2} {P : PR} (h : CP x.2.1 P) (hv : VF x x') : CP x'.2.1 P :=
  ⟨fun t ht => by rw [hv.iv _ (by omega) (by omega) (by omega) (by omega) (by omega)]; exact h.len t ht,
   fun t p ht hp => by rw [hv.iv _ (by omega) (by omega) (by omega) (by omega) (by omega)]; exact h.act t p ht hp,
   fun t p ht hp hc => by rw [hv.iv _ (by omega) (by omega) (by omega) (by omega) (by omega)]; exact h.opd t p ht hp hc,
   fun m hm => by rw [hv.iv _ (by omega) (by omega) (by omega) (by omega) (by omega)]; exact h.loose m hm⟩
theorem SC.iv {ln : Nat → Nat} {iv iv' : Nat → Nat → Int32} {lv : Nat → Nat → Int64} {P : PR} {σ : Nat → AS} {N : Nat} (h : SC (ln, iv, lv) P σ N) (h38 : iv' 38 = iv 38) (h40 : iv' 40 = iv 40) : SC (ln, iv', lv) P σ N :=
  ⟨by show iv' 38 0 = _; rw [h38]; exact h.sz,
   h.n3,
   h.e,
   h.l39,
   h.cap,
   h.row,
   by show HT (iv' 40) _ _ _; rw [h40]; exact h.tab.of (fun _ _ => rfl) (fun i _ => hN_eq (fun _ _ => rfl)),
   h.ok,
   h.ne⟩
theorem SC.fr {ln : Nat → Nat} {iv iv' : Nat → Nat → Int32} {lv : Nat → Nat → Int64} {P : PR} {σ : Nat → AS} {N : Nat} (h : SC (ln, iv, lv) P σ N) (hf : FR 1 iv iv') : SC (ln, iv', lv) P σ N := h.iv (hf 38 (by decide) (by decide) (by decide)) (hf 40 (by decide) (by decide) (by decide))
theorem opC {iv0 iv : Nat → Nat → Int32} {P : PR} {b : AS} (h : CR iv0 iv 1 b) (hC : CP iv0 P) (hP : okPR P) (hok : okAS P b) {t : Nat} (ht : t < 4) : opOK P b t (mmC iv t) (uC iv t) :=
  ⟨fun s0 ha => by
    have hl := (hok.th t ht).lt (by omega)
    have ho := hP.opm t _ ht hl ha
    unfold mmC
    rw [h.opd (by decide) hC hP ht hl (by omega), qC (by omega)]; omega,
   fun s1 => by
    have h1 := hok.th t ht
    have hl := h1.lt (by omega)
    have hk := (h1.kp1 s1).2
    have ho := hok.opm hP ht s1
    unfold mmC
    rw [h.opd (by decide) hC hP ht hl (by omega), qC (by omega)]; omega,
   fun s0 ha => by
    have hl := (hok.th t ht).lt (by omega)
    have ho := hP.opt t _ ht hl (by omega)
    unfold uC
    rw [h.opd (by decide) hC hP ht hl (by omega), qC (by omega)]; omega⟩
theorem nb01 {f : Nat} (h : f ≤ 1) : narrow .boolean (.int (nI f)) = .int (nI f) := by
  have : f = 0 ∨ f = 1 := by omega
  rcases this with q | q <;> subst q <;> rfl
theorem okT_of {iv0 iv : Nat → Nat → Int32} {mi : Nat} {P : PR} {b : AS} (h : CR iv0 iv mi b) (hmi : mi < 2) (hC : CP iv0 P) (hP : okPR P) (hok : okAS P b) {t mm u : Nat} (ht : t < 4) (hop : opOK P b t mm u) : okT iv mi t mm u := by
  have h1 := hok.th t ht
  have hT := h.th t ht
  have hst := h1.st
  have hlen := hP.len t ht
  have S : ∀ n, n < 100 → ((iv (20 + 4 * mi + t) 0 = nI n) = ((b.th t).st = n)) := fun n hn => by rw [hT.1]; exact nlit (by omega) (by omega)
  have S0 : (iv (20 + 4 * mi + t) 0 = 0) = ((b.th t).st = 0) := S 0 (by decide)
  have S1 : (iv (20 + 4 * mi + t) 0 = 1) = ((b.th t).st = 1) := S 1 (by decide)
  have S2 : (iv (20 + 4 * mi + t) 0 = 2) = ((b.th t).st = 2) := S 2 (by decide)
  have S4 : (iv (20 + 4 * mi + t) 0 = 4) = ((b.th t).st = 4) := S 4 (by decide)
  unfold okT
  rw [S0, S1, S2, S4]
  refine ⟨fun q => ?_, fun s0 ha => ?_, fun s0 ha => ?_, fun s => ?_, ?_⟩
  · rw [hT.2.1]; have := h1.lt q; exact vin (by omega) (by decide)
  · have hl := h1.lt (by omega)
    have hc := hP.act t _ ht hl
    rw [h.act hmi hC hP ht hl] at ha
    have ha : P.act t (b.th t).pl < 6 := by
      have : ¬ 5 < P.act t (b.th t).pl := fun q => ha ((qLt (a := 5) (by decide) (by omega)).2 q)
      omega
    rw [hop.m0 s0 ha]
    exact h.opd hmi hC hP ht hl (by omega)
  · have hl := h1.lt (by omega)
    have hc := hP.act t _ ht hl
    rw [h.act hmi hC hP ht hl] at ha
    have A : ∀ n, n < 100 → ((nI (P.act t (b.th t).pl) = nI n) = (P.act t (b.th t).pl = n)) := fun n hn => nlit (by omega) (by omega)
    have A6 : (nI (P.act t (b.th t).pl) = 6) = (P.act t (b.th t).pl = 6) := A 6 (by decide)
    have A8 : (nI (P.act t (b.th t).pl) = 8) = (P.act t (b.th t).pl = 8) := A 8 (by decide)
    have A9 : (nI (P.act t (b.th t).pl) = 9) = (P.act t (b.th t).pl = 9) := A 9 (by decide)
    rw [A6, A8, A9] at ha
    rw [hop.u0 s0 ha]
    exact h.opd hmi hC hP ht hl (by omega)
  · have hl := h1.lt (by omega)
    have hk := (h1.kp1 s).2
    rw [hop.m1 s]
    exact h.opd hmi hC hP ht hl (by omega)
  · rw [hT.2.2.2.1]; exact nb01 h1.fi
theorem okS4_of {iv0 iv : Nat → Nat → Int32} {mi : Nat} {P : PR} {b : AS} (h : CR iv0 iv mi b) (hok : okAS P b) {m : Nat} (hm : m < 2) : (iv (28 + 2 * mi + m) 2).toNatClampNeg = (b.mo m).q.length ∧ (b.mo m).q.length ≤ 4 ∧ ∀ j, j < (b.mo m).q.length → vp_in (iv (32 + 2 * mi + m) j) 4 := by
  have hl := hok.len hm
  have hM := h.mo m hm
  refine ⟨by rw [hM.2.2.1, qC (by omega)], hl, fun j hj => ?_⟩
  rw [hM.2.2.2 j hj]
  exact vin (hok.q m hm _ (getD_mem hj)).1 (by decide)
theorem okD_of {iv0 iv : Nat → Nat → Int32} {P : PR} {b : AS} (h : CR iv0 iv 1 b) (hok : okAS P b) {t : Nat} : okD iv t := by
  have hm : mmC iv t < 2 := Nat.mod_lt _ (by decide)
  obtain ⟨h1, h2, h3⟩ := okS4_of h hok hm
  have e : szC iv t = (b.mo (mmC iv t)).q.length := h1
  unfold okD
  rw [e]
  exact ⟨(h.mo _ hm).2.2.1, h2, h3⟩
