def capE (n : Nat) : Prop := n = 64 ∨ n = 256 ∨ n = 1024 ∨ n = 4096
def SC (x : KM2) (P : PR) (σ : Nat → AS) (N : Nat) : Prop := (x.2.1 38 0 = nI N) ∧ (N ≤ 3000) ∧ (capE (x.1 40)) ∧ (x.1 39 = x.1 40 * 3) ∧ (N ≤ x.1 40 / 4 * 3) ∧ (∀ i t, i < N → t < 4 → x.2.2 39 (i * 4 + t) = lI (cC (σ i) t)) ∧ (HT (x.2.1 40) (x.1 40) N (fun i => hN x.2.1 x.2.2 i)) ∧ (∀ i, i < N → okAS P (σ i)) ∧ (∀ i j, i < j → j < N → ¬ eqv (σ i) (σ j))
theorem SC.sz {x : KM2} {P : PR} {σ : Nat → AS} {N : Nat} (h9 : SC x P σ N) : x.2.1 38 0 = nI N := h9.1
theorem SC.n3 {x : KM2} {P : PR} {σ : Nat → AS} {N : Nat} (h9 : SC x P σ N) : N ≤ 3000 := h9.2.1
theorem SC.e {x : KM2} {P : PR} {σ : Nat → AS} {N : Nat} (h9 : SC x P σ N) : capE (x.1 40) := h9.2.2.1
theorem SC.l39 {x : KM2} {P : PR} {σ : Nat → AS} {N : Nat} (h9 : SC x P σ N) : x.1 39 = x.1 40 * 3 := h9.2.2.2.1
theorem SC.cap {x : KM2} {P : PR} {σ : Nat → AS} {N : Nat} (h9 : SC x P σ N) : N ≤ x.1 40 / 4 * 3 := h9.2.2.2.2.1
theorem SC.row {x : KM2} {P : PR} {σ : Nat → AS} {N : Nat} (h9 : SC x P σ N) : ∀ i t, i < N → t < 4 → x.2.2 39 (i * 4 + t) = lI (cC (σ i) t) := h9.2.2.2.2.2.1
theorem SC.tab {x : KM2} {P : PR} {σ : Nat → AS} {N : Nat} (h9 : SC x P σ N) : HT (x.2.1 40) (x.1 40) N (fun i => hN x.2.1 x.2.2 i) := h9.2.2.2.2.2.2.1
theorem SC.ok {x : KM2} {P : PR} {σ : Nat → AS} {N : Nat} (h9 : SC x P σ N) : ∀ i, i < N → okAS P (σ i) := h9.2.2.2.2.2.2.2.1
theorem SC.ne {x : KM2} {P : PR} {σ : Nat → AS} {N : Nat} (h9 : SC x P σ N) : ∀ i j, i < j → j < N → ¬ eqv (σ i) (σ j) := h9.2.2.2.2.2.2.2.2
theorem eqv.symm {a b : AS} (h : eqv a b) : eqv b a := ⟨fun t ht => (h.1 t ht).symm, fun m hm => (h.2 m hm).symm⟩
theorem row_eq {lv : Nat → Nat → Int64} {i j : Nat} {a b : AS} (ha : bAS a) (hb : bAS b) (hi : ∀ t, t < 4 → lv 39 (i * 4 + t) = lI (cC a t)) (hj : ∀ t, t < 4 → lv 39 (j * 4 + t) = lI (cC b t)) : (∀ t, t < 4 → lv 39 (i * 4 + t) = lv 39 (j * 4 + t)) ↔ eqv a b := by
  constructor
  · intro h
    refine cC_inj ha hb (fun t ht => ?_)
    have h1 := h t ht
    rw [hi t ht, hj t ht] at h1
    have := cC_lt ha ht
    have := cC_lt hb ht
    exact (lE (by omega) (by omega)).1 h1
  · intro h t ht
    rw [hi t ht, hj t ht, cC_eqv h ht]
theorem SC.okSl {x : KM2} {P : PR} {σ : Nat → AS} {N : Nat} (h : SC x P σ N) : okSl x.2.1 x.1 := by
  intro s hs hz
  obtain ⟨i, h1, h2⟩ := h.tab.b s hs hz
  have hn := h.n3
  rw [bS_eq h2 (by omega)]
  have hc := h.cap
  have hl := h.l39
  refine ⟨h2, ?_⟩
  rw [hl]
  omega
def lvK (lv : Nat → Nat → Int64) (a : AS) (sz : Nat) : Nat → Nat → Int64 := (up2L (up2L (up2L (up2L lv 39 ((sz * 4) + 0) (lI (cC a 0))) 39 ((sz * 4) + 1) (lI (cC a 1))) 39 ((sz * 4) + 2) (lI (cC a 2))) 39 ((sz * 4) + 3) (lI (cC a 3)))
theorem lvK_c {lv : Nat → Nat → Int64} {a : AS} {sz c : Nat} (h : ¬ c = 39) : lvK lv a sz c = lv c := by unfold lvK; rw [u2Ln h, u2Ln h, u2Ln h, u2Ln h]
theorem lvK_i {lv : Nat → Nat → Int64} {a : AS} {sz i t : Nat} (hi : i < sz) (ht : t < 4) : lvK lv a sz 39 (i * 4 + t) = lv 39 (i * 4 + t) := by unfold lvK; rw [u2Lk (by omega), u2Lk (by omega), u2Lk (by omega), u2Lk (by omega)]
theorem lvK_s {lv : Nat → Nat → Int64} {a : AS} {sz t : Nat} (ht : t < 4) : lvK lv a sz 39 (sz * 4 + t) = lI (cC a t) := by
  have : t = 0 ∨ t = 1 ∨ t = 2 ∨ t = 3 := by omega
  unfold lvK
  rcases this with q | q | q | q <;> subst q
  · rw [u2Lk (by omega), u2Lk (by omega), u2Lk (by omega), u2Ls]
  · rw [u2Lk (by omega), u2Lk (by omega), u2Ls]
  · rw [u2Lk (by omega), u2Ls]
  · rw [u2Ls]
def KF (x x' : KM2) : Prop := (∀ c, ¬ c = 38 → ¬ c = 40 → x'.2.1 c = x.2.1 c) ∧ (∀ c, ¬ c = 39 → x'.2.2 c = x.2.2 c) ∧ (∀ c, ¬ c = 39 → ¬ c = 40 → x'.1 c = x.1 c) ∧ (capE (x'.1 40)) ∧ (x'.1 39 = x'.1 40 * 3) ∧ (x.1 40 ≤ x'.1 40)
theorem KF.iv {x x' : KM2} (h9 : KF x x') : ∀ c, ¬ c = 38 → ¬ c = 40 → x'.2.1 c = x.2.1 c := h9.1
theorem KF.lv {x x' : KM2} (h9 : KF x x') : ∀ c, ¬ c = 39 → x'.2.2 c = x.2.2 c := h9.2.1
theorem KF.ln {x x' : KM2} (h9 : KF x x') : ∀ c, ¬ c = 39 → ¬ c = 40 → x'.1 c = x.1 c := h9.2.2.1
theorem KF.e {x x' : KM2} (h9 : KF x x') : capE (x'.1 40) := h9.2.2.2.1
theorem KF.l39 {x x' : KM2} (h9 : KF x x') : x'.1 39 = x'.1 40 * 3 := h9.2.2.2.2.1
theorem KF.le {x x' : KM2} (h9 : KF x x') : x.1 40 ≤ x'.1 40 := h9.2.2.2.2.2
theorem SC.keep {x : KM2} {P : PR} {σ : Nat → AS} {N : Nat} (h : SC x P σ N) (hP : okPR P) {iv0 : Nat → Nat → Int32} {a : AS} (hR : CR iv0 x.2.1 1 a) (ha : okAS P a) (hcap : N < x.1 40 / 4 * 3) :
    KF x (kpM x N) ∧ ((∃ i, i < N ∧ eqv (σ i) a) → r_sKeep x.2.1 x.2.2 x.1 N = 1 ∧ SC (kpM x N) P σ N) ∧ ((¬ ∃ i, i < N ∧ eqv (σ i) a) → (N < 3000 → r_sKeep x.2.1 x.2.2 x.1 N = 1 ∧ SC (kpM x N) P (fun i => if i = N then a else σ i) (N + 1)) ∧ (¬ N < 3000 → r_sKeep x.2.1 x.2.2 x.1 N = 0 ∧ (kpM x N).2.1 38 0 = nI N)) := by
  obtain ⟨ln, iv, lv⟩ := x
  have hR : CR iv0 iv 1 a := hR
  have hb := ha.b hP
  have e0 : (iv (28 + 2 * 1 + 0) 2).toNatClampNeg = (a.mo 0).q.length := by rw [(hR.mo 0 (by decide)).2.2.1, qC (by have := ha.len (m := 0) (by decide); omega)]
  have e1 : (iv (28 + 2 * 1 + 1) 2).toNatClampNeg = (a.mo 1).q.length := by rw [(hR.mo 1 (by decide)).2.2.1, qC (by have := ha.len (m := 1) (by decide); omega)]
  have w0 : r_aWord iv 1 0 (iv (28 + 2 * 1 + 0) 2).toNatClampNeg = lI (cC a 0) := word_eq hR hb (by decide) (fun _ => e0)
  have w1 : r_aWord iv 1 1 (iv (28 + 2 * 1 + 1) 2).toNatClampNeg = lI (cC a 1) := word_eq hR hb (by decide) (fun _ => e1)
  have w2 : r_aWord iv 1 2 0 = lI (cC a 2) := word_eq hR hb (by decide) (fun q => absurd q (by decide))
  have w3 : r_aWord iv 1 3 0 = lI (cC a 3) := word_eq hR hb (by decide) (fun q => absurd q (by decide))
  have hN3 := h.n3
  have hn4096 := h.tab.n
  have eN : n_sKeep iv lv ln N = lvK lv a N := by
    unfold n_sKeep
    rw [w0, w1, w2, w3]
    simp only [ifsame]
    rfl
  have eM : m_sKeep iv lv ln N = if iv 40 (slN iv (lvK lv a N) (ln 40) N) = 0 then (if nI N < 3000 then up2 (up2 iv 38 0 (nI (N + 1))) 40 (slN iv (lvK lv a N) (ln 40) N) (nI (N + 1)) else iv) else iv := by
    unfold m_sKeep
    rw [w0, w1, w2, w3]
    rfl
  have eR : r_sKeep iv lv ln N = if iv 40 (slN iv (lvK lv a N) (ln 40) N) = 0 then (if nI N < 3000 then 1 else 0) else 1 := by
    unfold r_sKeep
    rw [w0, w1, w2, w3]
    rfl
  have h3 : (nI N < 3000) = (N < 3000) := propext (qLt (b := 3000) (by omega) (by decide))
  unfold kpM
  show KF (ln, iv, lv) (ln, m_sKeep iv lv ln N, n_sKeep iv lv ln N) ∧ _
  rw [eN]
  have KFx : KF (ln, iv, lv) (ln, m_sKeep iv lv ln N, lvK lv a N) := by
    refine ⟨fun c h1 h2 => ?_, fun c hc => lvK_c hc, fun c _ _ => rfl, h.e, h.l39, Nat.le_refl _⟩
    show m_sKeep iv lv ln N c = iv c
    rw [eM]
    split
    · split
      · rw [u2n h2, u2n h1]
      · rfl
    · rfl
  refine ⟨KFx, ?_⟩
  have H2 : HT (iv 40) (ln 40) N (fun i => hN iv (lvK lv a N) i) := h.tab.of (fun _ _ => rfl) (fun i hi => hN_eq (fun t ht => lvK_i hi ht))
  have hrow : ∀ i t, i < N → t < 4 → lvK lv a N 39 (i * 4 + t) = lI (cC (σ i) t) := fun i t hi ht => by rw [lvK_i hi ht]; exact h.row i t hi ht
  refine ⟨fun hm => ?_, fun hm => ?_⟩
  · obtain ⟨i, hi, he⟩ := hm
    have hsm := (row_eq (lv := lvK lv a N) (i := i) (j := N) ((h.ok i hi).b hP) hb (fun t ht => hrow i t hi ht) (fun t ht => lvK_s ht)).2 he
    have hz := H2.hit hi hsm (hN_eq hsm)
    rw [if_neg hz] at eM eR
    show r_sKeep iv lv ln N = 1 ∧ SC (ln, m_sKeep iv lv ln N, lvK lv a N) P σ N
    rw [eM]
    exact ⟨eR, ⟨h.sz, h.n3, h.e, h.l39, h.cap, hrow, H2, h.ok, h.ne⟩⟩
  · have hno : ∀ i, i < N → ¬ ∀ t, t < 4 → lvK lv a N 39 (i * 4 + t) = lvK lv a N 39 (N * 4 + t) := fun i hi q => hm ⟨i, hi, (row_eq (lv := lvK lv a N) (i := i) (j := N) ((h.ok i hi).b hP) hb (fun t ht => hrow i t hi ht) (fun t ht => lvK_s ht)).1 q⟩
    obtain ⟨hz, hsn, hd⟩ := H2.miss hno
    rw [if_pos hz] at eM eR
    show (N < 3000 → r_sKeep iv lv ln N = 1 ∧ SC (ln, m_sKeep iv lv ln N, lvK lv a N) P (fun i => if i = N then a else σ i) (N + 1)) ∧ (¬ N < 3000 → r_sKeep iv lv ln N = 0 ∧ m_sKeep iv lv ln N 38 0 = nI N)
    simp only [h3] at eM eR
    refine ⟨fun hlt => ?_, fun hlt => by rw [eR, eM, if_neg hlt, if_neg hlt]; exact ⟨rfl, h.sz⟩⟩
    rw [if_pos hlt] at eM eR
    have hcap' : N < ln 40 / 4 * 3 := hcap
    have hH := H2.ins hz hsn hd (by omega)
    rw [eM]
    refine ⟨eR, ⟨?_, hlt, h.e, h.l39, hcap, fun i t hi ht => ?_, ?_, fun i hi => ?_, fun i j hij hj => ?_⟩⟩
    · show up2 (up2 iv 38 0 (nI (N + 1))) 40 (slN iv (lvK lv a N) (ln 40) N) (nI (N + 1)) 38 0 = _
      rw [u2n (by decide), u2s]; simp [upd]
    · show lvK lv a N 39 (i * 4 + t) = lI (cC (if i = N then a else σ i) t)
      by_cases q : i = N
      · rw [if_pos q, q]; exact lvK_s ht
      · rw [if_neg q]; exact hrow i t (by omega) ht
    · show HT (up2 (up2 iv 38 0 (nI (N + 1))) 40 (slN iv (lvK lv a N) (ln 40) N) (nI (N + 1)) 40) (ln 40) (N + 1) _
      rw [u2s, u2n (by decide)]
      exact hH.of (fun _ _ => rfl) (fun i _ => hN_eq (fun t _ => rfl))
    · show okAS P (if i = N then a else σ i)
      by_cases q : i = N
      · rw [if_pos q]; exact ha
      · rw [if_neg q]; exact h.ok i (by omega)
    · show ¬ eqv (if i = N then a else σ i) (if j = N then a else σ j)
      rw [if_neg (by omega)]
      by_cases q : j = N
      · rw [if_pos q]; exact fun e => hm ⟨i, by omega, e⟩
      · rw [if_neg q]; exact h.ne i j hij (by omega)
theorem SC.grow {x : KM2} {P : PR} {σ : Nat → AS} {N : Nat} (h : SC x P σ N) (hP : okPR P) (hs : x.1 40 < 4096) : SC (gwM x.1 x.2.1 x.2.2 (x.1 40) N) P σ N ∧ KF x (gwM x.1 x.2.1 x.2.2 (x.1 40) N) ∧ (gwM x.1 x.2.1 x.2.2 (x.1 40) N).1 40 = x.1 40 * 4 ∧ (gwM x.1 x.2.1 x.2.2 (x.1 40) N).2.1 38 = x.2.1 38 := by
  obtain ⟨ln, iv, lv⟩ := x
  have hs : ln 40 < 4096 := hs
  have hc : N ≤ ln 40 / 4 * 3 := h.cap
  have he : capE (ln 40) := h.e
  have hN3 := h.n3
  have hln40 : lnG ln (ln 40) 40 = ln 40 * 4 := rfl
  have hcap4 : capE (ln 40 * 4) := by unfold capE at *; omega
  have hrow : ∀ i t, i < N → t < 4 → lvG lv (ln 40) 39 (i * 4 + t) = lI (cC (σ i) t) := fun i t hi ht => by
    show va_cpy (lv 39) (fun _ => 0) 0 0 (ln 40 * 3) (i * 4 + t) = _
    unfold va_cpy
    rw [if_pos (by omega), Nat.zero_add, Nat.sub_zero]
    exact h.row i t hi ht
  have hb : ∀ i, i < N → bAS (σ i) := fun i hi => (h.ok i hi).b hP
  have key : ∀ k, k ≤ N → HT (gwI (ivG iv) (lvG lv (ln 40)) (ln 40 * 4) k 40) (ln 40 * 4) k (fun i => hN iv (lvG lv (ln 40)) i) ∧ ∀ c, ¬ c = 40 → gwI (ivG iv) (lvG lv (ln 40)) (ln 40 * 4) k c = iv c := by
    intro k
    induction k with
    | zero =>
      intro _
      exact ⟨HT.empty (by unfold capE at he; omega) (by unfold capE at he; omega), fun c hc => by show ivG iv c = iv c; unfold ivG; rw [if_neg hc]⟩
    | succ k ih =>
      intro hk
      obtain ⟨H, F⟩ := ih (by omega)
      have H' : HT (gwI (ivG iv) (lvG lv (ln 40)) (ln 40 * 4) k 40) (ln 40 * 4) k (fun i => hN (gwI (ivG iv) (lvG lv (ln 40)) (ln 40 * 4) k) (lvG lv (ln 40)) i) := H.of (fun _ _ => rfl) (fun i _ => hN_eq (fun t _ => rfl))
      obtain ⟨hz, hsn, hd⟩ := H'.miss (a := k) (lv := lvG lv (ln 40)) (fun i hi q => h.ne i k hi (by omega) ((row_eq (hb i (by omega)) (hb k (by omega)) (fun t ht => hrow i t (by omega) ht) (fun t ht => hrow k t (by omega) ht)).1 q))
      have hI := H'.ins hz hsn hd (by omega)
      refine ⟨?_, fun c hc => ?_⟩
      · rw [gwI, u2s]
        exact hI.of (fun _ _ => rfl) (fun i _ => hN_eq (fun t _ => rfl))
      · rw [gwI, u2n hc, F c hc]
  obtain ⟨H, F⟩ := key N (Nat.le_refl _)
  refine ⟨⟨?_, hN3, hcap4, ?_, ?_, hrow, ?_, h.ok, h.ne⟩, ⟨fun c _ h2 => F c h2, fun c hc => ?_, fun c h1 h2 => ?_, hcap4, ?_, ?_⟩, rfl, F 38 (by decide)⟩
  · show gwI (ivG iv) (lvG lv (ln 40)) (ln 40 * 4) N 38 0 = nI N
    rw [F 38 (by decide)]; exact h.sz
  · show ln 40 * 3 * 4 = ln 40 * 4 * 3; omega
  · show N ≤ ln 40 * 4 / 4 * 3; omega
  · exact H.of (fun _ _ => rfl) (fun i _ => hN_eq (fun t _ => rfl))
  · show lvG lv (ln 40) c = lv c; unfold lvG; rw [if_neg hc]
  · show lnG ln (ln 40) c = ln c; unfold lnG lnG1; rw [if_neg h1, if_neg h2]
  · show ln 40 * 3 * 4 = ln 40 * 4 * 3; omega
  · show ln 40 ≤ ln 40 * 4; omega
theorem KF.trans {x y z : KM2} (h : KF x y) (h' : KF y z) : KF x z :=
  ⟨fun c h1 h2 => by rw [h'.iv c h1 h2, h.iv c h1 h2],
   fun c h1 => by rw [h'.lv c h1, h.lv c h1],
   fun c h1 h2 => by rw [h'.ln c h1 h2, h.ln c h1 h2],
   h'.e,
   h'.l39,
   Nat.le_trans h.le h'.le⟩
theorem SC.keepX {x : KM2} {P : PR} {σ : Nat → AS} {N : Nat} (h : SC x P σ N) (hP : okPR P) {iv0 : Nat → Nat → Int32} {a : AS} (hR : CR iv0 x.2.1 1 a) (ha : okAS P a) :
    KF x (kpX x.1 x.2.1 x.2.2 N (kqK x.1)) ∧ ((∃ i, i < N ∧ eqv (σ i) a) → kpR x.1 x.2.1 x.2.2 N (kqK x.1) = 1 ∧ SC (kpX x.1 x.2.1 x.2.2 N (kqK x.1)) P σ N) ∧ ((¬ ∃ i, i < N ∧ eqv (σ i) a) → (N < 3000 → kpR x.1 x.2.1 x.2.2 N (kqK x.1) = 1 ∧ SC (kpX x.1 x.2.1 x.2.2 N (kqK x.1)) P (fun i => if i = N then a else σ i) (N + 1)) ∧ (¬ N < 3000 → kpR x.1 x.2.1 x.2.2 N (kqK x.1) = 0 ∧ (kpX x.1 x.2.1 x.2.2 N (kqK x.1)).2.1 38 0 = nI N)) := by
  have hc := h.cap
  have he := h.e
  have h3 := h.n3
  unfold kpX kpR kqK
  by_cases q : N < x.1 40 / 4 * 3
  · rw [if_pos q, if_pos q]
    exact h.keep hP hR ha q
  · rw [if_neg q, if_neg q]
    have e4 : x.1 40 / 4 * 4 = x.1 40 := by unfold capE at he; omega
    rw [e4]
    obtain ⟨g1, g2, g3, g4⟩ := h.grow hP (by unfold capE at he; omega)
    have hR' : CR (gwM x.1 x.2.1 x.2.2 (x.1 40) N).2.1 (gwM x.1 x.2.1 x.2.2 (x.1 40) N).2.1 1 a := by
      have F := g2.iv
      refine ⟨fun t ht => ?_, fun m hm => ?_, fun c _ _ _ => rfl⟩
      · rw [F _ (by omega) (by omega)]; exact hR.th t ht
      · rw [F _ (by omega) (by omega), F _ (by omega) (by omega)]; exact hR.mo m hm
    obtain ⟨k1, k2, k3⟩ := g1.keep hP hR' ha (by rw [g3]; unfold capE at he; omega)
    exact ⟨g2.trans k1, k2, k3⟩
theorem log2c {n : Nat} (h : capE n) : Nat.log2 n ≤ 12 ∧ 2 ≤ Nat.log2 n ∧ n = 2 ^ Nat.log2 n ∧ (n < 4096 → Nat.log2 n ≤ 10) := by
  rcases h with q | q | q | q <;> subst q <;> decide
theorem vin {n N : Nat} (h : n < N) (h2 : N < 2 ^ 31) : vp_in (nI n) N := by
  intro q
  rcases q with q | q
  · rw [q0, qLt (by omega) (by omega)] at q; omega
  · rw [qC (by omega)] at q; omega
theorem SC.okVv {x : KM2} {P : PR} {σ : Nat → AS} {N : Nat} (h : SC x P σ N) {iv0 : Nat → Nat → Int32} {a : AS} (hR : CR iv0 x.2.1 1 a) (ha : okAS P a) : okV x.1 x.2.1 ∧ szK x.2.1 = N := by
  have hc := h.cap
  have he := h.e
  have h3 := h.n3
  have hz : szK x.2.1 = N := by unfold szK; rw [h.sz, qC (by omega)]
  have hl := log2c he
  refine ⟨?_, hz⟩
  unfold okV okK kqK eK
  rw [hz]
  refine ⟨⟨h.sz, h3, by unfold capE at he; omega, ?_, hl.1, hl.2.1, ?_, ?_, ?_, h.okSl⟩, hc, fun q => hl.2.2.2 (by unfold capE at he; omega)⟩
  · rw [← hl.2.2.1]; unfold capE at he; omega
  · rw [h.l39]; unfold capE at he; omega
  · rw [(hR.mo 0 (by decide)).2.2.1]; exact vin (by have := ha.len (m := 0) (by decide); omega) (by decide)
  · rw [(hR.mo 1 (by decide)).2.2.1]; exact vin (by have := ha.len (m := 1) (by decide); omega) (by decide)
