theorem qD {a : Nat} (ha : a < 2 ^ 31) : nI a / 12 = nI (a / 12) := (Int32.ofNat_div (b := 12) ha (by decide)).symm
theorem lD {a : Nat} (ha : a < 2 ^ 63) : lI a / 12 = lI (a / 12) := (Int64.ofNat_div (b := 12) ha (by decide)).symm
theorem qSub {a b : Nat} (h : b ≤ a) : nI a - nI b = nI (a - b) := by
  have h1 : nI a = nI (a - b) + nI b := by rw [← qA]; congr 1; omega
  rw [h1, Int32.add_sub_cancel]
theorem lSub {a b : Nat} (h : b ≤ a) : lI a - lI b = lI (a - b) := by
  have h1 : lI a = lI (a - b) + lI b := by rw [← lAdd]; congr 1; omega
  rw [h1, Int64.add_sub_cancel]
theorem divI_eq : ∀ (j a : Nat), a < 2 ^ 31 → divI j (nI a) = nI (a / 12 ^ j)
  | 0, a, _ => by rw [divI, Nat.pow_zero, Nat.div_one]
  | j + 1, a, h => by
    rw [divI, qD h, divI_eq j (a / 12) (by omega), Nat.div_div_eq_div_mul, Nat.pow_succ, Nat.mul_comm]
theorem divL_eq : ∀ (j a : Nat), a < 2 ^ 63 → divL j (lI a) = lI (a / 12 ^ j)
  | 0, a, _ => by rw [divL, Nat.pow_zero, Nat.div_one]
  | j + 1, a, h => by
    rw [divL, lD h, divL_eq j (a / 12) (by omega), Nat.div_div_eq_div_mul, Nat.pow_succ, Nat.mul_comm]
theorem digI {a : Nat} (h : a < 2 ^ 31) : nI a - nI a / 12 * 12 = nI (a % 12) := by
  rw [qD h, show (12 : Int32) = nI 12 from rfl, ← qM, qSub (by omega)]
  congr 1; omega
theorem digL {a : Nat} (h : a < 2 ^ 63) : (lI a - lI a / 12 * 12).toInt32 = nI (a % 12) := by
  rw [lD h, show (12 : Int64) = lI 12 from rfl, ← lMul, lSub (by omega), j32]
  congr 1; omega
theorem dig_eq {n r j : Nat} (h : j < n) : (12 ^ n + r) / 12 ^ j % 12 = r / 12 ^ j % 12 := by
  have h1 : 12 ^ n = 12 ^ j * (12 * 12 ^ (n - j - 1)) := by
    rw [show 12 * 12 ^ (n - j - 1) = 12 ^ (n - j) by rw [show n - j = n - j - 1 + 1 by omega, Nat.pow_succ, Nat.add_sub_cancel, Nat.mul_comm], ← Nat.pow_add]
    congr 1; omega
  have hp : 0 < 12 ^ j := Nat.pow_pos (by decide)
  rw [h1, Nat.mul_add_div hp, Nat.add_comm, Nat.add_mul_mod_self_left]
theorem letters_eq {iv0 iv : Nat → Nat → Int32} {mi t : Nat} {a : AS} (h : CR iv0 iv mi a) (ht : t < 4) (hb : bTH (a.th t)) : r_wLetters iv mi t = nI (a.th t).n := by
  have hT := (h.th t ht).2.2.2.2.2.2
  have hr := hb.r
  have hn := hb.n
  have hre := reN_lt hb
  unfold r_wLetters
  rw [hT, show 12 ^ (a.th t).n + (a.th t).r = reN (a.th t) from rfl]
  have hv : reN (a.th t) = 12 ^ (a.th t).n + (a.th t).r := rfl
  generalize reN (a.th t) = v at *
  generalize (a.th t).r = r at *
  generalize (a.th t).n = n at *
  rw [qD (by omega), qD (by omega), qD (by omega), qD (by omega), qD (by omega), qD (by omega)]
  simp only [show (12 : Int32) = nI 12 from rfl]
  simp only [qLt (a := v) (b := 12) (by omega) (by decide), qLt (a := v / 12) (b := 12) (by omega) (by decide), qLt (a := v / 12 / 12) (b := 12) (by omega) (by decide), qLt (a := v / 12 / 12 / 12) (b := 12) (by omega) (by decide), qLt (a := v / 12 / 12 / 12 / 12) (b := 12) (by omega) (by decide), qLt (a := v / 12 / 12 / 12 / 12 / 12) (b := 12) (by omega) (by decide), qLt (a := v / 12 / 12 / 12 / 12 / 12 / 12) (b := 12) (by omega) (by decide)]
  have : n = 0 ∨ n = 1 ∨ n = 2 ∨ n = 3 ∨ n = 4 ∨ n = 5 ∨ n = 6 := by omega
  have p1 : (12 : Nat) ^ 1 = 12 := rfl
  have p2 : (12 : Nat) ^ 2 = 144 := rfl
  have p3 : (12 : Nat) ^ 3 = 1728 := rfl
  have p4 : (12 : Nat) ^ 4 = 20736 := rfl
  have p5 : (12 : Nat) ^ 5 = 248832 := rfl
  have p6 : (12 : Nat) ^ 6 = 2985984 := rfl
  rcases this with q | q | q | q | q | q | q <;> subst q
  · rw [Nat.pow_zero] at hv hr; rw [if_pos (by omega)]; rfl
  · rw [p1] at hv hr; rw [if_neg (by omega), if_pos (by omega)]; rfl
  · rw [p2] at hv hr; rw [if_neg (by omega), if_neg (by omega), if_pos (by omega)]; rfl
  · rw [p3] at hv hr; rw [if_neg (by omega), if_neg (by omega), if_neg (by omega), if_pos (by omega)]; rfl
  · rw [p4] at hv hr; rw [if_neg (by omega), if_neg (by omega), if_neg (by omega), if_neg (by omega), if_pos (by omega)]; rfl
  · rw [p5] at hv hr; rw [if_neg (by omega), if_neg (by omega), if_neg (by omega), if_neg (by omega), if_neg (by omega), if_pos (by omega)]; rfl
  · rw [p6] at hv hr; rw [if_neg (by omega), if_neg (by omega), if_neg (by omega), if_neg (by omega), if_neg (by omega), if_neg (by omega), if_pos (by omega)]; rfl
section
variable {P : PR} {a : AS} {s : SS} {x : KM2} {y : RM}
theorem LJ.letter (h : LJ P a s x y) (tt k : Int32) : ∃ t n kx : Nat, (¬ r_xIsT x.2.1 tt = 0 → t < 4 ∧ tt = nI t) ∧ (r_oOut y.1 tt 4 = 0 → t < 4 ∧ tt = nI t) ∧ (t < 4 → r_wLetters x.2.1 0 t = nI n ∧ n ≤ 6) ∧ (¬ k < 0 → k < nI n → kx < n ∧ k = nI kx) ∧ (t < 4 → (m_oUnp y.1 y.2 16 0) 7 t = nI n ∧ n ≤ 6) ∧ (r_oOut y.1 k (nI n) = 0 → kx < n ∧ k = nI kx) ∧ r_xLetter x.2.1 tt t k n kx = r_oLetter y.1 y.2 tt t k n kx ∧ LJ P a s x (m_oLetter y.1 y.2 tt, n_oLetter y.1 y.2 tt) := by
  have hmem : LJ P a s x (m_oLetter y.1 y.2 tt, n_oLetter y.1 y.2 tt) := by
    unfold m_oLetter n_oLetter
    by_cases q : r_oOut y.1 tt 4 = 0
    · rw [if_pos q, if_pos q]; exact h.unp
    · rw [if_neg q, if_neg q]; exact h
  rcases vcase tt (n := 4) (by decide) with ⟨t, ht, rfl⟩ | hn
  · have e1 := isT_y (iv := x.2.1) ht
    have e2 : r_oOut y.1 (nI t) 4 = 0 := out_y (n := 4) ht (by decide)
    have hb := h.ok.bth h.pr ht
    have hn6 := hb.n
    have hr := hb.r
    have hre := reN_lt hb
    have hr22 := r_lt hb
    have hT := (h.cr.th t ht).2.2.2.2.2.2
    have hU := h.un.th t ht
    have hU7 : m_oUnp y.1 y.2 16 0 7 t = nI (a.th t).n := hU.2.2.2.1
    have hU8 : n_oUnp y.1 y.2 16 0 8 t = lI (a.th t).r := hU.2.2.2.2.1
    rcases vcase k (n := (a.th t).n) (by omega) with ⟨kx, hk, rfl⟩ | hn2
    · refine ⟨t, (a.th t).n, kx, fun _ => ⟨ht, rfl⟩, fun _ => ⟨ht, rfl⟩, fun _ => ⟨letters_eq h.cr ht hb, hn6⟩, fun _ _ => ⟨hk, rfl⟩, fun _ => ⟨hU7, hn6⟩, fun _ => ⟨hk, rfl⟩, ?_, hmem⟩
      unfold r_xLetter r_oLetter r_wLetterAt
      rw [if_neg (by rw [e1]; decide), if_pos e2, if_neg (nlt0 (by omega)), if_pos ((qLt (by omega) (by omega)).2 hk), if_pos (out_y hk (by omega)), hT, hU8]
      have hj : (a.th t).n - 1 - kx = (a.th t).n - (kx + 1) := by omega
      have hre2 : 12 ^ (a.th t).n + (a.th t).r < 2 ^ 31 := by have : reN (a.th t) = 12 ^ (a.th t).n + (a.th t).r := rfl; omega
      have d1 : (12 ^ (a.th t).n + (a.th t).r) / 12 ^ ((a.th t).n - (kx + 1)) < 2 ^ 31 := Nat.lt_of_le_of_lt (Nat.div_le_self _ _) hre2
      have d2 : (a.th t).r / 12 ^ ((a.th t).n - (kx + 1)) < 2 ^ 63 := Nat.lt_of_le_of_lt (Nat.div_le_self _ _) (by omega)
      rw [hj, divI_eq _ _ hre2, divL_eq _ _ (by omega), digI d1, digL d2, dig_eq (by omega)]
    · refine ⟨t, (a.th t).n, 0, fun _ => ⟨ht, rfl⟩, fun _ => ⟨ht, rfl⟩, fun _ => ⟨letters_eq h.cr ht hb, hn6⟩, fun q1 q2 => ?_, fun _ => ⟨hU7, hn6⟩, fun q => ?_, ?_, hmem⟩
      · rcases hn2 with e | e
        · exact absurd e q1
        · exact absurd q2 e
      · rw [out_n hn2] at q; exact absurd q (by decide)
      · unfold r_xLetter r_oLetter r_wLetterAt
        rw [if_neg (by rw [e1]; decide), if_pos e2, if_neg (show ¬ r_oOut (m_oUnp y.1 y.2 16 0) k (nI (a.th t).n) = 0 by rw [out_n hn2]; decide)]
        by_cases q : k < 0
        · rw [if_pos q]
        · rw [if_neg q, if_neg (by rcases hn2 with e | e; exact absurd e q; exact e)]
  · have e1 := isT_n (iv := x.2.1) hn
    have e2 : r_oOut y.1 tt 4 = 1 := out_n (w := 4) hn
    rcases vcase k (n := 0) (by decide) with ⟨kx, hk, _⟩ | hn2
    · exact absurd hk (Nat.not_lt_zero _)
    refine ⟨4, 0, 0, fun q => absurd e1 q, fun q => absurd q (by rw [e2]; decide), fun q => absurd q (by decide), fun q1 q2 => ?_, fun q => absurd q (by decide), fun q => ?_, ?_, hmem⟩
    · rcases hn2 with e | e
      · exact absurd e q1
      · exact absurd q2 e
    · rw [out_n hn2] at q; exact absurd q (by decide)
    · unfold r_xLetter r_oLetter
      rw [if_pos e1, if_neg (by rw [e2]; decide)]
theorem opG {iv0 iv : Nat → Nat → Int32} {mi : Nat} {b : AS} (hmi : mi < 2) (h : CR iv0 iv mi b) (hC : CP iv0 P) (hP : okPR P) (hok : okAS P b) {t : Nat} (ht : t < 4) : opOK P b t ((r_wOperand iv mi t).toNatClampNeg % 2) ((r_wOperand iv mi t).toNatClampNeg % 4) :=
  ⟨fun s0 ha => by
    have hl := (hok.th t ht).lt (by omega)
    have ho := hP.opm t _ ht hl ha
    rw [h.opd hmi hC hP ht hl (by omega), qC (by omega)]; omega,
   fun s1 => by
    have h1 := hok.th t ht
    have hl := h1.lt (by omega)
    have hk := (h1.kp1 s1).2
    have ho := hok.opm hP ht s1
    rw [h.opd hmi hC hP ht hl (by omega), qC (by omega)]; omega,
   fun s0 ha => by
    have hl := (hok.th t ht).lt (by omega)
    have ho := hP.opt t _ ht hl (by omega)
    rw [h.opd hmi hC hP ht hl (by omega), qC (by omega)]; omega⟩
theorem LJ.allowed (h : LJ P a s x y) (tt way : Int32) : ∃ t mm u mm' u' p : Nat, (¬ r_xIsT x.2.1 tt = 0 → t < 4 ∧ tt = nI t) ∧ (r_oOut y.1 tt 4 = 0 → t < 4 ∧ tt = nI t) ∧ mm < 2 ∧ u < 4 ∧ mm' < 2 ∧ u' < 4 ∧ (t < 4 → okT x.2.1 0 t mm u) ∧ (t < 4 → okR (m_oUnp y.1 y.2 16 0) t p mm' u') ∧ r_xAllowed x.2.1 tt t way mm u = r_oAllowed y.1 y.2 tt t way mm' u' p ∧ LJ P a s x (m_oAllowed y.1 y.2 tt t way mm' u' p, n_oAllowed y.1 y.2 tt t way mm' u' p) := by
  have hmem : ∀ t mm' u' p, LJ P a s x (m_oAllowed y.1 y.2 tt t way mm' u' p, n_oAllowed y.1 y.2 tt t way mm' u' p) := fun t mm' u' p => by
    unfold m_oAllowed n_oAllowed
    simp only [ifsame]
    exact h.unp
  rcases vcase tt (n := 4) (by decide) with ⟨t, ht, rfl⟩ | hn
  · have e1 := isT_y (iv := x.2.1) ht
    have e2 : r_oOut (m_oUnp y.1 y.2 16 0) (nI t) 4 = 0 := out_y (n := 4) ht (by decide)
    have hop := opG (mi := 0) (by decide) h.cr h.cp h.pr h.ok ht
    refine ⟨t, _, _, mmO (m_oUnp y.1 y.2 16 0) t, uO (m_oUnp y.1 y.2 16 0) t, pO (m_oUnp y.1 y.2 16 0) t, fun _ => ⟨ht, rfl⟩, fun _ => ⟨ht, rfl⟩, Nat.mod_lt _ (by decide), Nat.mod_lt _ (by decide), Nat.mod_lt _ (by decide), Nat.mod_lt _ (by decide), fun _ => okT_of h.cr (by decide) h.cp h.pr h.ok ht hop, fun _ => okO_of h.un h.sr.rp h.pr h.ok ht, ?_, hmem _ _ _ _⟩
    unfold r_xAllowed r_oAllowed
    rw [if_neg (by rw [e1]; decide), if_pos e2]
    rcases vcase way (n := 4) (by decide) with ⟨w, hw, rfl⟩ | hn2
    · have e3 := isW_y (iv := x.2.1) hw
      have e4 : r_oOut (m_oUnp y.1 y.2 16 0) (nI w) 4 = 0 := out_y (n := 4) hw (by decide)
      rw [if_neg (by rw [e3]; decide), if_pos e4, h.cr.may (by decide) h.cp h.pr h.ok ht hw hop]
      have hm : mayO (m_oUnp y.1 y.2 16 0) t (nI w) = nI (aMay P a t w) := h.un.may h.sr.rp h.pr h.ok ht hw
      unfold mayO at hm
      rw [hm]
    · have e3 := isW_n (iv := x.2.1) hn2
      have e4 : r_oOut (m_oUnp y.1 y.2 16 0) way 4 = 1 := out_n (w := 4) hn2
      rw [if_pos e3, if_neg (by rw [e4]; decide)]
  · have e1 := isT_n (iv := x.2.1) hn
    have e2 : r_oOut y.1 tt 4 = 1 := out_n (w := 4) hn
    have e3 : r_oOut (m_oUnp y.1 y.2 16 0) tt 4 = 1 := out_n (w := 4) hn
    refine ⟨4, 0, 0, 0, 0, 0, fun q => absurd e1 q, fun q => absurd q (by rw [e2]; decide), by decide, by decide, by decide, by decide, fun q => absurd q (by decide), fun q => absurd q (by decide), ?_, hmem _ _ _ _⟩
    unfold r_xAllowed r_oAllowed
    rw [if_pos e1, if_neg (by rw [e3]; decide)]
end
