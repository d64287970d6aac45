abbrev SS : Type := Nat × (Nat → AS) × (Nat → Int64) × Nat × Nat × Nat × Nat × (Nat → Nat)
abbrev SS.N (x : SS) : Nat := x.1
abbrev SS.σ (x : SS) : Nat → AS := x.2.1
abbrev SS.f (x : SS) : Nat → Int64 := x.2.2.1
abbrev SS.L (x : SS) : Nat := x.2.2.2.1
abbrev SS.fin (x : SS) : Nat := x.2.2.2.2.1
abbrev SS.all (x : SS) : Nat := x.2.2.2.2.2.1
abbrev SS.mst (x : SS) : Nat := x.2.2.2.2.2.2.1
abbrev SS.bl (x : SS) : Nat → Nat := x.2.2.2.2.2.2.2
abbrev SS.mk (a0 : Nat) (a1 : Nat → AS) (a2 : Nat → Int64) (a3 : Nat) (a4 : Nat) (a5 : Nat) (a6 : Nat) (a7 : Nat → Nat) : SS := (a0, a1, a2, a3, a4, a5, a6, a7)
theorem SS.ext {x y : SS} (h0 : x.N = y.N) (h1 : x.σ = y.σ) (h2 : x.f = y.f) (h3 : x.L = y.L) (h4 : x.fin = y.fin) (h5 : x.all = y.all) (h6 : x.mst = y.mst) (h7 : x.bl = y.bl) : x = y := Prod.ext h0 (Prod.ext h1 (Prod.ext h2 (Prod.ext h3 (Prod.ext h4 (Prod.ext h5 (Prod.ext h6 h7))))))
def oW (x : TH) : Int64 := lI (reN x * 12 + (if x.st = 4 then 6 else 7))
def oV (b : AS) : Int64 := ((((((((0 * 48611) + (oW (b.th 0))) * 48611) + (oW (b.th 1))) * 48611) + (oW (b.th 2))) * 48611) + (oW (b.th 3)))
def ntF (f : Nat → Int64) (L : Nat) (v : Int64) : (Nat → Int64) × Nat := if posL (fun _ => f) v L 0 < L ∧ f (posL (fun _ => f) v L 0) = v then (f, L) else (insA f (posL (fun _ => f) v L 0) v, L + 1)
theorem ntF_note {f : Nat → Int64} {L : Nat} {v : Int64} (hs : srt f L) : noteA f L v (ntF f L v).1 (ntF f L v).2 := by
  have hb : LB f L v (posL (fun _ => f) v L 0) := posL_LB (lv := fun _ => f) (v := v) hs L 0 (by omega) (fun j h => absurd h (Nat.not_lt_zero _))
  refine ⟨_, hb, ?_⟩
  unfold ntF
  by_cases q : posL (fun _ => f) v L 0 < L ∧ f (posL (fun _ => f) v L 0) = v
  · rw [if_pos q]; exact Or.inl ⟨q.1, q.2, rfl, rfl⟩
  · rw [if_neg q]; exact Or.inr ⟨q, rfl, rfl⟩
def aE (b : AS) : Nat := if (b.th 0).st = 4 ∧ (b.th 1).st = 4 ∧ (b.th 2).st = 4 ∧ (b.th 3).st = 4 then 1 else 0
def finA (s : SS) (b : AS) : SS := (SS.mk s.N s.σ ((ntF s.f s.L (oV b)).1) ((ntF s.f s.L (oV b)).2) (s.fin + 1) (s.all + aE b) s.mst (fun t => if (b.th t).st = 4 then s.bl t else 1))
noncomputable def goB (P : PR) (j : Nat) (s : SS) : SS := (SS.mk ((vA P (s.σ j) (s.N, s.σ) 16).1.1) ((vA P (s.σ j) (s.N, s.σ) 16).1.2) s.f s.L s.fin s.all (if s.mst < (vA P (s.σ j) (s.N, s.σ) 16).2 then (vA P (s.σ j) (s.N, s.σ) 16).2 else s.mst) s.bl)
noncomputable def goA (P : PR) (j : Nat) (s : SS) : SS := if (vA P (s.σ j) (s.N, s.σ) 16).2 = 0 then finA (goB P j s) (s.σ j) else goB P j s
def GS (P : PR) (s : SS) (j : Nat) : Prop := (srt s.f s.L) ∧ (s.L ≤ s.fin) ∧ (s.fin ≤ j) ∧ (s.all ≤ s.fin) ∧ (s.mst ≤ 16) ∧ (s.N ≤ 3001) ∧ (∀ i, i < s.N → okAS P (s.σ i)) ∧ (∀ i k, i < k → k < s.N → ¬ eqv (s.σ i) (s.σ k))
theorem GS.srt {P : PR} {s : SS} {j : Nat} (h9 : GS P s j) : srt s.f s.L := h9.1
theorem GS.L {P : PR} {s : SS} {j : Nat} (h9 : GS P s j) : s.L ≤ s.fin := h9.2.1
theorem GS.fin {P : PR} {s : SS} {j : Nat} (h9 : GS P s j) : s.fin ≤ j := h9.2.2.1
theorem GS.all {P : PR} {s : SS} {j : Nat} (h9 : GS P s j) : s.all ≤ s.fin := h9.2.2.2.1
theorem GS.mst {P : PR} {s : SS} {j : Nat} (h9 : GS P s j) : s.mst ≤ 16 := h9.2.2.2.2.1
theorem GS.N {P : PR} {s : SS} {j : Nat} (h9 : GS P s j) : s.N ≤ 3001 := h9.2.2.2.2.2.1
theorem GS.ok {P : PR} {s : SS} {j : Nat} (h9 : GS P s j) : ∀ i, i < s.N → okAS P (s.σ i) := h9.2.2.2.2.2.2.1
theorem GS.ne {P : PR} {s : SS} {j : Nat} (h9 : GS P s j) : ∀ i k, i < k → k < s.N → ¬ eqv (s.σ i) (s.σ k) := h9.2.2.2.2.2.2.2
theorem addA_ok {P : PR} {y : Nat × (Nat → AS)} {b : AS} (h : ∀ i, i < y.1 → okAS P (y.2 i)) (hn : ∀ i k, i < k → k < y.1 → ¬ eqv (y.2 i) (y.2 k)) (hb : okAS P b) : (∀ i, i < (addA y b).1 → okAS P ((addA y b).2 i)) ∧ ∀ i k, i < k → k < (addA y b).1 → ¬ eqv ((addA y b).2 i) ((addA y b).2 k) := by
  unfold addA
  split
  · exact ⟨h, hn⟩
  · rename_i q
    refine ⟨fun i hi => ?_, fun i k hik hk => ?_⟩
    · have hi : i < y.1 + 1 := hi
      show okAS P (if i = y.1 then b else y.2 i)
      split
      · exact hb
      · exact h i (by omega)
    · have hk : k < y.1 + 1 := hk
      show ¬ eqv (if i = y.1 then b else y.2 i) (if k = y.1 then b else y.2 k)
      rw [if_neg (by omega)]
      split
      · exact fun e => q (Or.inr ⟨i, by omega, e⟩)
      · exact hn i k hik (by omega)
theorem vA_ok {P : PR} (hP : okPR P) {b : AS} (hb : okAS P b) {y : Nat × (Nat → AS)} (h : ∀ i, i < y.1 → okAS P (y.2 i)) (hn : ∀ i k, i < k → k < y.1 → ¬ eqv (y.2 i) (y.2 k)) : ∀ c, c ≤ 16 → (∀ i, i < (vA P b y c).1.1 → okAS P ((vA P b y c).1.2 i)) ∧ ∀ i k, i < k → k < (vA P b y c).1.1 → ¬ eqv ((vA P b y c).1.2 i) ((vA P b y c).1.2 k)
  | 0, _ => ⟨h, hn⟩
  | c + 1, hc => by
    obtain ⟨h1, h2⟩ := vA_ok hP hb h hn c (by omega)
    rw [vA]
    by_cases q : aMay P b (c / 4) (c % 4) = 0
    · rw [if_pos q]; exact ⟨h1, h2⟩
    · rw [if_neg q]; exact addA_ok h1 h2 (hb.tak hP (by omega) q)
theorem GS.go {P : PR} (hP : okPR P) {s : SS} {j : Nat} (h : GS P s j) (hj : j < s.N) : GS P (goA P j s) (j + 1) := by
  have hb := h.ok j hj
  obtain ⟨h1, h2⟩ := vA_ok hP hb (y := (s.N, s.σ)) h.ok h.ne 16 (Nat.le_refl _)
  have h3 := vA_cap (P := P) (b := s.σ j) (y := (s.N, s.σ)) h.N 16
  have h4 := (vA_le (P := P) (b := s.σ j) (y := (s.N, s.σ)) 16).2.2
  have hL := h.L
  have hf := h.fin
  have ha := h.all
  have hm := h.mst
  have hmst : (goB P j s).mst ≤ 16 := by
    show (if s.mst < (vA P (s.σ j) (s.N, s.σ) 16).2 then (vA P (s.σ j) (s.N, s.σ) 16).2 else s.mst) ≤ 16
    split <;> omega
  unfold goA
  split
  · have hn := ntF_note (v := oV (s.σ j)) h.srt
    have hle := hn.le
    have haE : aE (s.σ j) ≤ 1 := by unfold aE; split <;> omega
    exact ⟨hn.srt h.srt, by show (ntF s.f s.L (oV (s.σ j))).2 ≤ s.fin + 1; omega, by show s.fin + 1 ≤ j + 1; omega, by show s.all + aE (s.σ j) ≤ s.fin + 1; omega, hmst, h3, h1, h2⟩
  · exact ⟨h.srt, hL, by show s.fin ≤ j + 1; omega, ha, hmst, h3, h1, h2⟩
theorem goA_N (P : PR) (j : Nat) (s : SS) : (goA P j s).N = (vA P (s.σ j) (s.N, s.σ) 16).1.1 ∧ (goA P j s).σ = (vA P (s.σ j) (s.N, s.σ) 16).1.2 := by
  unfold goA; split <;> exact ⟨rfl, rfl⟩
def CC (x : KM2) (s : SS) : Prop := (x.2.1 36 4 = nI s.fin) ∧ (x.2.1 36 5 = nI s.all) ∧ (x.2.1 36 6 = nI s.mst) ∧ (∀ t, t < 4 → x.2.1 37 t = nI (s.bl t)) ∧ (x.2.1 36 10 = nI s.L) ∧ (∀ j, j < s.L → x.2.2 41 j = s.f j) ∧ (capO (x.1 41)) ∧ (s.L ≤ x.1 41)
theorem CC.fin {x : KM2} {s : SS} (h9 : CC x s) : x.2.1 36 4 = nI s.fin := h9.1
theorem CC.all {x : KM2} {s : SS} (h9 : CC x s) : x.2.1 36 5 = nI s.all := h9.2.1
theorem CC.mst {x : KM2} {s : SS} (h9 : CC x s) : x.2.1 36 6 = nI s.mst := h9.2.2.1
theorem CC.bl {x : KM2} {s : SS} (h9 : CC x s) : ∀ t, t < 4 → x.2.1 37 t = nI (s.bl t) := h9.2.2.2.1
theorem CC.len {x : KM2} {s : SS} (h9 : CC x s) : x.2.1 36 10 = nI s.L := h9.2.2.2.2.1
theorem CC.row {x : KM2} {s : SS} (h9 : CC x s) : ∀ j, j < s.L → x.2.2 41 j = s.f j := h9.2.2.2.2.2.1
theorem CC.cap {x : KM2} {s : SS} (h9 : CC x s) : capO (x.1 41) := h9.2.2.2.2.2.2.1
theorem CC.le {x : KM2} {s : SS} (h9 : CC x s) : s.L ≤ x.1 41 := h9.2.2.2.2.2.2.2
theorem CC.of {x x' : KM2} {s s' : SS} (h : CC x s) (h36 : x'.2.1 36 = x.2.1 36) (h37 : x'.2.1 37 = x.2.1 37) (h41 : x'.2.2 41 = x.2.2 41) (l41 : x'.1 41 = x.1 41) (e : s'.fin = s.fin ∧ s'.all = s.all ∧ s'.mst = s.mst ∧ s'.bl = s.bl ∧ s'.L = s.L ∧ s'.f = s.f) : CC x' s' :=
  ⟨by rw [h36, e.1]; exact h.fin,
   by rw [h36, e.2.1]; exact h.all,
   by rw [h36, e.2.2.1]; exact h.mst,
   fun t ht => by rw [h37, e.2.2.2.1]; exact h.bl t ht,
   by rw [h36, e.2.2.2.2.1]; exact h.len,
   fun j hj => by rw [h41, e.2.2.2.2.2]; rw [e.2.2.2.2.1] at hj; exact h.row j hj,
   by rw [l41]; exact h.cap,
   by rw [l41, e.2.2.2.2.1]; exact h.le⟩
theorem cfB_sp {iv0 m : Nat → Nat → Int32} {b : AS} (h : CR iv0 m 1 b) {P : PR} (hok : okAS P b) : ∀ t, t ≤ 4 → (∀ c, ¬ c = 37 → cfB m t c = m c) ∧ (∀ u, cfB m t 37 u = if u < t ∧ ¬ (b.th u).st = 4 then 1 else m 37 u) ∧ cfA m t = nI (if ∀ u, u < t → (b.th u).st = 4 then 1 else 0)
  | 0, _ => ⟨fun _ _ => rfl, fun u => by rw [if_neg (by omega)]; rfl, by rw [if_pos (fun u hu => absurd hu (Nat.not_lt_zero _))]; rfl⟩
  | t + 1, ht => by
    obtain ⟨h1, h2, h3⟩ := cfB_sp h hok t (by omega)
    have hst := (hok.th t (by omega)).st
    have he : r_aEnded (cfB m t) 1 t = nI (if (b.th t).st = 4 then 1 else 0) := by
      unfold r_aEnded
      rw [h1 _ (by omega), (h.th t (by omega)).1]
      simp only [show (4 : Int32) = nI 4 from rfl, nlit (c := (b.th t).st) (n := 4) (by omega) (by decide)]
      split <;> rfl
    rw [cfB, cfA, he]
    by_cases q : (b.th t).st = 4
    · rw [if_pos q, if_neg (by decide), if_neg (by decide)]
      refine ⟨h1, fun u => ?_, ?_⟩
      · rw [h2 u]
        by_cases e : u = t
        · rw [if_neg (by omega), if_neg (by rw [e]; exact fun q2 => q2.2 q)]
        · by_cases e2 : u < t ∧ ¬ (b.th u).st = 4
          · rw [if_pos e2, if_pos ⟨by omega, e2.2⟩]
          · rw [if_neg e2, if_neg (fun e3 => e2 ⟨by omega, e3.2⟩)]
      · rw [h3]
        congr 1
        by_cases e : ∀ u, u < t → (b.th u).st = 4
        · rw [if_pos e, if_pos (fun u hu => by by_cases e2 : u = t; rw [e2]; exact q; exact e u (by omega))]
        · rw [if_neg e, if_neg (fun e2 => e (fun u hu => e2 u (by omega)))]
    · rw [if_neg q, if_pos (show nI 0 = 0 from rfl), if_pos (show nI 0 = 0 from rfl)]
      refine ⟨fun c hc => by rw [u2n hc, h1 c hc], fun u => ?_, ?_⟩
      · rw [u2s]
        unfold upd
        by_cases e : u = t
        · rw [if_pos e, if_pos (by rw [e]; exact ⟨by omega, q⟩)]
        · rw [if_neg e, h2 u]
          by_cases e2 : u < t ∧ ¬ (b.th u).st = 4
          · rw [if_pos e2, if_pos ⟨by omega, e2.2⟩]
          · rw [if_neg e2, if_neg (fun e3 => e2 ⟨by omega, e3.2⟩)]
      · rw [if_neg (fun e => q (e t (by omega)))]; rfl
theorem aE_all {b : AS} {n : Nat} (hn : n = 4) : (if ∀ u, u < n → (b.th u).st = 4 then 1 else 0) = aE b := by
  unfold aE
  by_cases q : ∀ u, u < n → (b.th u).st = 4
  · rw [if_pos q, if_pos ⟨q 0 (by omega), q 1 (by omega), q 2 (by omega), q 3 (by omega)⟩]
  · rw [if_neg q, if_neg (fun e => q (fun u hu => by
      have : u = 0 ∨ u = 1 ∨ u = 2 ∨ u = 3 := by omega
      rcases this with h | h | h | h <;> subst h
      · exact e.1
      · exact e.2.1
      · exact e.2.2.1
      · exact e.2.2.2))]
theorem aOutc_eq {iv0 m : Nat → Nat → Int32} {b : AS} (h : CR iv0 m 1 b) {P : PR} (hP : okPR P) (hok : okAS P b) : r_aOutc m 1 = oV b := by
  have hw : ∀ t, t < 4 → r_wOutc m 1 t = oW (b.th t) := fun t ht => by
    have hb := hok.bth hP ht
    have hr := reN_lt hb
    have hst := hb.st
    have hT := h.th t ht
    unfold r_wOutc oW
    rw [hT.1, hT.2.2.2.2.2.2, show 12 ^ (b.th t).n + (b.th t).r = reN (b.th t) from rfl, q64 (by omega)]
    have e : (if nI (b.th t).st = 4 then (6 : Int32) else 7) = nI (if (b.th t).st = 4 then 6 else 7) := by
      simp only [show (4 : Int32) = nI 4 from rfl, nlit (c := (b.th t).st) (n := 4) (by omega) (by decide)]
      split <;> rfl
    rw [e, q64 (by split <;> omega), lAdd, lMul]
    rfl
  unfold r_aOutc oV
  rw [hw 0 (by decide), hw 1 (by decide), hw 2 (by decide), hw 3 (by decide)]
