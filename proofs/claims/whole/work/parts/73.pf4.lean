def vo (c : Nat) (a : Int32) : Prop := (c < 6 → ∃ m, m < 2 ∧ a = nI m) ∧ (c = 6 ∨ c = 8 ∨ c = 9 ∨ c = 11 → ∃ u, u < 4 ∧ a = nI u)
theorem vo_dec (c : Nat) (a : Int32) : vo c a ∨ (c < 6 ∧ (a < 0 ∨ ¬ a < nI 2)) ∨ ((c = 6 ∨ c = 8 ∨ c = 9 ∨ c = 11) ∧ (a < 0 ∨ ¬ a < nI 4)) := by
  by_cases h1 : c < 6
  · rcases vcase a (n := 2) (by decide) with h | h
    · exact Or.inl ⟨fun _ => h, fun q => by omega⟩
    · exact Or.inr (Or.inl ⟨h1, h⟩)
  · by_cases h2 : c = 6 ∨ c = 8 ∨ c = 9 ∨ c = 11
    · rcases vcase a (n := 4) (by decide) with h | h
      · exact Or.inl ⟨fun q => absurd q h1, fun _ => h⟩
      · exact Or.inr (Or.inr ⟨h2, h⟩)
    · exact Or.inl ⟨fun q => absurd q h1, fun q => absurd q h2⟩
theorem isA_y {iv : Nat → Nat → Int32} {c : Nat} {a : Int32} (hc : c < 13) (h : vo c a) : r_xIsA iv (nI c) a = 1 := by
  have L : ∀ n, n < 100 → ((nI c = nI n) = (c = n)) := fun n hn => nlit (by omega) (by omega)
  have L6 : (nI c = 6) = (c = 6) := L 6 (by decide)
  have L8 : (nI c = 8) = (c = 8) := L 8 (by decide)
  have L9 : (nI c = 9) = (c = 9) := L 9 (by decide)
  have L11 : (nI c = 11) = (c = 11) := L 11 (by decide)
  have e12 : (nI c ≤ 12) = (c ≤ 12) := propext (qLe (b := 12) (by omega) (by decide))
  have e5 : (5 < nI c) = (5 < c) := propext (qLt (a := 5) (by decide) (by omega))
  unfold r_xIsA
  simp only [L6, L8, L9, L11, e12, e5]
  rw [if_neg (nlt0 (by omega)), if_pos (show c ≤ 12 by omega)]
  by_cases h1 : c < 6
  · rw [if_neg (show ¬ 5 < c by omega)]
    obtain ⟨m, hm, rfl⟩ := h.1 h1
    exact isM_y hm
  · rw [if_pos (show 5 < c by omega)]
    by_cases c6 : c = 6
    · rw [if_pos c6]; obtain ⟨u, hu, rfl⟩ := h.2 (by omega); exact isT_y hu
    rw [if_neg c6]
    by_cases c8 : c = 8
    · rw [if_pos c8]; obtain ⟨u, hu, rfl⟩ := h.2 (by omega); exact isT_y hu
    rw [if_neg c8]
    by_cases c9 : c = 9
    · rw [if_pos c9]; obtain ⟨u, hu, rfl⟩ := h.2 (by omega); exact isT_y hu
    rw [if_neg c9]
    by_cases c11 : c = 11
    · rw [if_pos c11]; obtain ⟨u, hu, rfl⟩ := h.2 (by omega); exact isT_y (iv := iv) hu
    rw [if_neg c11]
theorem isA_n {iv : Nat → Nat → Int32} {c : Nat} {a : Int32} (hc : c < 13) (h : (c < 6 ∧ (a < 0 ∨ ¬ a < nI 2)) ∨ ((c = 6 ∨ c = 8 ∨ c = 9 ∨ c = 11) ∧ (a < 0 ∨ ¬ a < nI 4))) : r_xIsA iv (nI c) a = 0 := by
  have L : ∀ n, n < 100 → ((nI c = nI n) = (c = n)) := fun n hn => nlit (by omega) (by omega)
  have L6 : (nI c = 6) = (c = 6) := L 6 (by decide)
  have L8 : (nI c = 8) = (c = 8) := L 8 (by decide)
  have L9 : (nI c = 9) = (c = 9) := L 9 (by decide)
  have L11 : (nI c = 11) = (c = 11) := L 11 (by decide)
  have e12 : (nI c ≤ 12) = (c ≤ 12) := propext (qLe (b := 12) (by omega) (by decide))
  have e5 : (5 < nI c) = (5 < c) := propext (qLt (a := 5) (by decide) (by omega))
  unfold r_xIsA
  simp only [L6, L8, L9, L11, e12, e5]
  rw [if_neg (nlt0 (by omega)), if_pos (show c ≤ 12 by omega)]
  rcases h with ⟨h1, h2⟩ | ⟨h1, h2⟩
  · rw [if_neg (show ¬ 5 < c by omega)]; exact isM_n h2
  · rw [if_pos (show 5 < c by omega)]
    have hT := isT_n (iv := iv) h2
    by_cases c6 : c = 6
    · rw [if_pos c6]; exact hT
    rw [if_neg c6]
    by_cases c8 : c = 8
    · rw [if_pos c8]; exact hT
    rw [if_neg c8]
    by_cases c9 : c = 9
    · rw [if_pos c9]; exact hT
    rw [if_neg c9, if_pos (show c = 11 by omega)]
    exact hT
theorem isA_o {iv : Nat → Nat → Int32} {v a : Int32} (h : v < 0 ∨ ¬ v < nI 13) : r_xIsA iv v a = 0 := by
  unfold r_xIsA
  by_cases q : v < 0
  · rw [if_pos q]
  · rw [if_neg q, if_neg]
    intro e
    rcases h with h | h
    · exact q h
    · apply h
      rw [Int32.lt_iff_toInt_lt, qI (by decide)]
      have := Int32.le_iff_toInt_le.1 e
      have e12 : (12 : Int32).toInt = 12 := by decide
      omega
def selO {α : Type} (iv : Nat → Nat → Int32) (act a : Int32) (A B : α) : α := if (r_oOut iv act 13) = 0 then if 6 ≤ act then if act = 6 then if (r_oOut iv a 4) = 0 then A else B else if act = 8 then if (r_oOut iv a 4) = 0 then A else B else if act = 9 then if (r_oOut iv a 4) = 0 then A else B else if act = 11 then if (r_oOut iv a 4) = 0 then A else B else A else if (r_oOut iv a 2) = 0 then if act = 6 then if (r_oOut iv a 4) = 0 then A else B else if act = 8 then if (r_oOut iv a 4) = 0 then A else B else if act = 9 then if (r_oOut iv a 4) = 0 then A else B else if act = 11 then if (r_oOut iv a 4) = 0 then A else B else A else B else B
theorem selO_y {α : Type} {iv : Nat → Nat → Int32} {c : Nat} {a : Int32} {A B : α} (hc : c < 13) (h : vo c a) : selO iv (nI c) a A B = A := by
  have L : ∀ n, n < 100 → ((nI c = nI n) = (c = n)) := fun n hn => nlit (by omega) (by omega)
  have L6 : (nI c = 6) = (c = 6) := L 6 (by decide)
  have L8 : (nI c = 8) = (c = 8) := L 8 (by decide)
  have L9 : (nI c = 9) = (c = 9) := L 9 (by decide)
  have L11 : (nI c = 11) = (c = 11) := L 11 (by decide)
  have e6 : (6 ≤ nI c) = (6 ≤ c) := propext (qLe (a := 6) (by decide) (by omega))
  have e0 : r_oOut iv (nI c) 13 = 0 := out_y (n := 13) hc (by decide)
  have o4 : ∀ u, u < 4 → r_oOut iv (nI u) 4 = 0 := fun u hu => out_y (n := 4) hu (by decide)
  have o2 : ∀ u, u < 2 → r_oOut iv (nI u) 2 = 0 := fun u hu => out_y (n := 2) hu (by decide)
  unfold selO
  simp only [L6, L8, L9, L11, e6]
  rw [if_pos e0]
  by_cases h1 : c < 6
  · obtain ⟨m, hm, rfl⟩ := h.1 h1
    rw [if_neg (show ¬ 6 ≤ c by omega), if_pos (o2 m hm), if_neg (show ¬ c = 6 by omega), if_neg (show ¬ c = 8 by omega), if_neg (show ¬ c = 9 by omega), if_neg (show ¬ c = 11 by omega)]
  · rw [if_pos (show 6 ≤ c by omega)]
    by_cases c6 : c = 6
    · rw [if_pos c6]; obtain ⟨u, hu, rfl⟩ := h.2 (by omega); rw [if_pos (o4 u hu)]
    rw [if_neg c6]
    by_cases c8 : c = 8
    · rw [if_pos c8]; obtain ⟨u, hu, rfl⟩ := h.2 (by omega); rw [if_pos (o4 u hu)]
    rw [if_neg c8]
    by_cases c9 : c = 9
    · rw [if_pos c9]; obtain ⟨u, hu, rfl⟩ := h.2 (by omega); rw [if_pos (o4 u hu)]
    rw [if_neg c9]
    by_cases c11 : c = 11
    · rw [if_pos c11]; obtain ⟨u, hu, rfl⟩ := h.2 (by omega); rw [if_pos (o4 u hu)]
    rw [if_neg c11]
theorem selO_n {α : Type} {iv : Nat → Nat → Int32} {c : Nat} {a : Int32} {A B : α} (hc : c < 13) (h : (c < 6 ∧ (a < 0 ∨ ¬ a < nI 2)) ∨ ((c = 6 ∨ c = 8 ∨ c = 9 ∨ c = 11) ∧ (a < 0 ∨ ¬ a < nI 4))) : selO iv (nI c) a A B = B := by
  have L : ∀ n, n < 100 → ((nI c = nI n) = (c = n)) := fun n hn => nlit (by omega) (by omega)
  have L6 : (nI c = 6) = (c = 6) := L 6 (by decide)
  have L8 : (nI c = 8) = (c = 8) := L 8 (by decide)
  have L9 : (nI c = 9) = (c = 9) := L 9 (by decide)
  have L11 : (nI c = 11) = (c = 11) := L 11 (by decide)
  have e6 : (6 ≤ nI c) = (6 ≤ c) := propext (qLe (a := 6) (by decide) (by omega))
  have e0 : r_oOut iv (nI c) 13 = 0 := out_y (n := 13) hc (by decide)
  unfold selO
  simp only [L6, L8, L9, L11, e6]
  rw [if_pos e0]
  rcases h with ⟨h1, h2⟩ | ⟨h1, h2⟩
  · have e : ¬ r_oOut iv a 2 = 0 := by rw [show r_oOut iv a 2 = 1 from out_n (w := 2) h2]; decide
    rw [if_neg (show ¬ 6 ≤ c by omega), if_neg e]
  · have e : ¬ r_oOut iv a 4 = 0 := by rw [show r_oOut iv a 4 = 1 from out_n (w := 4) h2]; decide
    rw [if_pos (show 6 ≤ c by omega)]
    by_cases c6 : c = 6
    · rw [if_pos c6, if_neg e]
    rw [if_neg c6]
    by_cases c8 : c = 8
    · rw [if_pos c8, if_neg e]
    rw [if_neg c8]
    by_cases c9 : c = 9
    · rw [if_pos c9, if_neg e]
    rw [if_neg c9, if_pos (show c = 11 by omega), if_neg e]
theorem selO_o {α : Type} {iv : Nat → Nat → Int32} {v a : Int32} {A B : α} (h : v < 0 ∨ ¬ v < nI 13) : selO iv v a A B = B := by
  unfold selO
  rw [if_neg (by rw [show r_oOut iv v 13 = 1 from out_n (w := 13) h]; decide)]
def P1 (P : PR) (t n c o : Nat) : PR := ⟨fun u => if u = t then n + 1 else P.len u, fun u p => if u = t ∧ p = n then c else P.act u p, fun u p => if u = t ∧ p = n then o else P.opd u p, P.loose⟩
theorem P1_ok {P : PR} (hP : okPR P) {t n c : Nat} {a : Int32} (hn : P.len t = n) (hn6 : n < 6) (hc : c < 13) (h : vo c a) : okPR (P1 P t n c a.toNatClampNeg) := by
  have hlt : ∀ u p, p < (P1 P t n c a.toNatClampNeg).len u → ¬ (u = t ∧ p = n) → p < P.len u := fun u p hp hne => by
    have hp : p < (if u = t then n + 1 else P.len u) := hp
    by_cases q : u = t
    · rw [if_pos q] at hp; rw [q, hn]; omega
    · rw [if_neg q] at hp; exact hp
  refine ⟨fun u hu => ?_, fun u p hu hp => ?_, fun u p hu hp => ?_, fun u p hu hp => ?_, hP.loose⟩
  · show (if u = t then n + 1 else P.len u) ≤ 6
    split
    · omega
    · exact hP.len u hu
  · show (if u = t ∧ p = n then c else P.act u p) ≤ 12
    split
    · omega
    · rename_i q; exact hP.act u p hu (hlt u p hp q)
  · show (if u = t ∧ p = n then c else P.act u p) < 6 → (if u = t ∧ p = n then a.toNatClampNeg else P.opd u p) < 2
    split
    · intro hc6; obtain ⟨m, hm, rfl⟩ := h.1 hc6; rw [qC (by omega)]; exact hm
    · rename_i q; exact hP.opm u p hu (hlt u p hp q)
  · show (if u = t ∧ p = n then c else P.act u p) = 6 ∨ (if u = t ∧ p = n then c else P.act u p) = 8 ∨ (if u = t ∧ p = n then c else P.act u p) = 9 ∨ (if u = t ∧ p = n then c else P.act u p) = 11 → (if u = t ∧ p = n then a.toNatClampNeg else P.opd u p) < 4
    split
    · intro hc6; obtain ⟨m, hm, rfl⟩ := h.2 hc6; rw [qC (by omega)]; exact hm
    · rename_i q; exact hP.opt u p hu (hlt u p hp q)
theorem P1_C {P : PR} {iv : Nat → Nat → Int32} (hC : CP iv P) {t n c : Nat} {a : Int32} (ht : t < 4) (hn : P.len t = n) (hn6 : n < 6) (h : vo c a) : CP (m_pAdd iv t (nI c) a n) (P1 P t n c a.toNatClampNeg) := by
  have e : m_pAdd iv t (nI c) a n = up2 (up2 (up2 iv (6 + t) n (nI c)) (10 + t) n a) (2 + t) 2 (nI (n + 1)) := by
    unfold m_pAdd; rw [if_neg (by rw [show (6 : Int32) = nI 6 from rfl, qLe (by decide) (by omega)]; omega)]
  rw [e]
  have hlt : ∀ u p, p < (P1 P t n c a.toNatClampNeg).len u → ¬ (u = t ∧ p = n) → p < P.len u := fun u p hp hne => by
    have hp : p < (if u = t then n + 1 else P.len u) := hp
    by_cases q : u = t
    · rw [if_pos q] at hp; rw [q, hn]; omega
    · rw [if_neg q] at hp; exact hp
  refine ⟨fun u hu => ?_, fun u p hu hp => ?_, fun u p hu hp => ?_, fun m hm => ?_⟩
  · show _ = nI (if u = t then n + 1 else P.len u)
    by_cases q : u = t
    · rw [if_pos q, q, u2v]
    · rw [if_neg q, u2n (by omega), u2n (by omega), u2n (by omega)]; exact hC.len u hu
  · show _ = nI (if u = t ∧ p = n then c else P.act u p)
    by_cases q : u = t ∧ p = n
    · rw [if_pos q, q.1, q.2, u2n (by omega), u2n (by omega), u2v]
    · rw [if_neg q, u2n (by omega), u2n (by omega)]
      by_cases q2 : u = t
      · rw [q2, u2w (fun e => q ⟨q2, e⟩), ← q2]; exact hC.act u p hu (hlt u p hp q)
      · rw [u2n (by omega)]; exact hC.act u p hu (hlt u p hp q)
  · show (if u = t ∧ p = n then c else P.act u p) < 6 ∨ (if u = t ∧ p = n then c else P.act u p) = 6 ∨ (if u = t ∧ p = n then c else P.act u p) = 8 ∨ (if u = t ∧ p = n then c else P.act u p) = 9 ∨ (if u = t ∧ p = n then c else P.act u p) = 11 → _ = nI (if u = t ∧ p = n then a.toNatClampNeg else P.opd u p)
    by_cases q : u = t ∧ p = n
    · rw [if_pos q, if_pos q, q.1, q.2, u2n (by omega), u2v]
      intro hc6
      have : ∃ m, m < 4 ∧ a = nI m := by
        rcases hc6 with e | e
        · obtain ⟨m, hm, e⟩ := h.1 e; exact ⟨m, by omega, e⟩
        · exact h.2 e
      obtain ⟨m, hm, rfl⟩ := this
      rw [qC (by omega)]
    · rw [if_neg q, if_neg q, u2n (by omega)]
      intro hc6
      by_cases q2 : u = t
      · rw [q2, u2w (fun e => q ⟨q2, e⟩), ← q2, u2n (by omega)]; exact hC.opd u p hu (hlt u p hp q) hc6
      · rw [u2n (by omega), u2n (by omega)]; exact hC.opd u p hu (hlt u p hp q) hc6
  · show _ = nI P.loose
    rw [u2n (by omega), u2n (by omega), u2n (by omega)]; exact hC.loose m hm
theorem P1_R {P : PR} (hP : okPR P) {jv : Nat → Nat → Int32} (hC : RP jv P) {t n c : Nat} {a : Int32} (ht : t < 4) (hn : P.len t = n) (hn6 : n < 6) (h : vo c a) : RP (up2 (up2 (up2 jv 1 ((6 * t) + n) (nI c)) 2 ((6 * t) + n) a) 3 t (nI (n + 1))) (P1 P t n c a.toNatClampNeg) := by
  have hlt : ∀ u p, p < (P1 P t n c a.toNatClampNeg).len u → ¬ (u = t ∧ p = n) → p < P.len u := fun u p hp hne => by
    have hp : p < (if u = t then n + 1 else P.len u) := hp
    by_cases q : u = t
    · rw [if_pos q] at hp; rw [q, hn]; omega
    · rw [if_neg q] at hp; exact hp
  have hne : ∀ u p, u < 4 → p < P.len u → ¬ (u = t ∧ p = n) → ¬ 6 * u + p = 6 * t + n := fun u p hu hp q => by
    have := hP.len u hu
    omega
  refine ⟨fun u hu => ?_, fun u p hu hp => ?_, fun u p hu hp => ?_, ?_⟩
  · show _ = nI (if u = t then n + 1 else P.len u)
    by_cases q : u = t
    · rw [if_pos q, q, u2v]
    · rw [if_neg q, u2w q, u2n (by decide), u2n (by decide)]; exact hC.len u hu
  · show _ = nI (if u = t ∧ p = n then c else P.act u p)
    by_cases q : u = t ∧ p = n
    · rw [if_pos q, q.1, q.2, u2n (by decide), u2n (by decide), u2v]
    · have hp' := hlt u p hp q
      rw [if_neg q, u2n (by decide), u2n (by decide), u2w (hne u p hu hp' q)]; exact hC.act u p hu hp'
  · show (if u = t ∧ p = n then c else P.act u p) < 6 ∨ (if u = t ∧ p = n then c else P.act u p) = 6 ∨ (if u = t ∧ p = n then c else P.act u p) = 8 ∨ (if u = t ∧ p = n then c else P.act u p) = 9 ∨ (if u = t ∧ p = n then c else P.act u p) = 11 → _ = nI (if u = t ∧ p = n then a.toNatClampNeg else P.opd u p)
    by_cases q : u = t ∧ p = n
    · rw [if_pos q, if_pos q, q.1, q.2, u2n (by decide), u2v]
      intro hc6
      have : ∃ m, m < 4 ∧ a = nI m := by
        rcases hc6 with e | e
        · obtain ⟨m, hm, e⟩ := h.1 e; exact ⟨m, by omega, e⟩
        · exact h.2 e
      obtain ⟨m, hm, rfl⟩ := this
      rw [qC (by omega)]
    · have hp' := hlt u p hp q
      rw [if_neg q, if_neg q, u2n (by decide), u2w (hne u p hu hp' q), u2n (by decide)]
      intro hc6
      exact hC.opd u p hu hp' hc6
  · rw [u2n (by decide), u2n (by decide), u2n (by decide)]; exact hC.loose
