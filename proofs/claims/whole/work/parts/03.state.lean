/-! THE CLASS'S CELLS: 0 the object, 1 programs, 2.. Program, 6.. actions, 10.. operands, 14.. Machine (0 the present one, 1 the search's), 16.. workers, 18.. monitors, 20.. Worker, 28.. Monitor, 32.. set, 36 Search, 37 blocked, 38 States, 39 words, 40 slots, 41 outcomes. gc: the array classes int, boolean, long, Program, Worker, Monitor -/
def kE (gc : Nat → ClassId) : KE := fun ad ln r lr c => match c with
  | 0 => .inr (6, [.ref (ad (1)), .ref (ad (14)), .ref (ad (36)), .int (r 3)])
  | 1 => .inl (gc 3, 4, .inr (.inr (.inr (.inr (fun k => some (ad (2 + k)))))))
  | 2 => .inr (2, [.ref (ad (6)), .ref (ad (10)), .int (r 2)])
  | 3 => .inr (2, [.ref (ad (7)), .ref (ad (11)), .int (r 2)])
  | 4 => .inr (2, [.ref (ad (8)), .ref (ad (12)), .int (r 2)])
  | 5 => .inr (2, [.ref (ad (9)), .ref (ad (13)), .int (r 2)])
  | 6 => .inl (gc 0, 6, .inl r)
  | 7 => .inl (gc 0, 6, .inl r)
  | 8 => .inl (gc 0, 6, .inl r)
  | 9 => .inl (gc 0, 6, .inl r)
  | 10 => .inl (gc 0, 6, .inl r)
  | 11 => .inl (gc 0, 6, .inl r)
  | 12 => .inl (gc 0, 6, .inl r)
  | 13 => .inl (gc 0, 6, .inl r)
  | 14 => .inr (0, [.ref (ad (16)), .ref (ad (18)), .int (r 2)])
  | 15 => .inr (0, [.ref (ad (17)), .ref (ad (19)), .int (r 2)])
  | 16 => .inl (gc 4, 4, .inr (.inr (.inr (.inr (fun k => some (ad (20 + 4 * 0 + k)))))))
  | 17 => .inl (gc 4, 4, .inr (.inr (.inr (.inr (fun k => some (ad (20 + 4 * 1 + k)))))))
  | 18 => .inl (gc 5, 2, .inr (.inr (.inr (.inr (fun k => some (ad (28 + 2 * 0 + k)))))))
  | 19 => .inl (gc 5, 2, .inr (.inr (.inr (.inr (fun k => some (ad (28 + 2 * 1 + k)))))))
  | 20 => .inr (5, [.int (r 0), .int (r 1), .int (r 2), .int (r 3), .int (r 4), .int (r 5), .ref (ad (2)), .int (r 7)])
  | 21 => .inr (5, [.int (r 0), .int (r 1), .int (r 2), .int (r 3), .int (r 4), .int (r 5), .ref (ad (3)), .int (r 7)])
  | 22 => .inr (5, [.int (r 0), .int (r 1), .int (r 2), .int (r 3), .int (r 4), .int (r 5), .ref (ad (4)), .int (r 7)])
  | 23 => .inr (5, [.int (r 0), .int (r 1), .int (r 2), .int (r 3), .int (r 4), .int (r 5), .ref (ad (5)), .int (r 7)])
  | 24 => .inr (5, [.int (r 0), .int (r 1), .int (r 2), .int (r 3), .int (r 4), .int (r 5), .ref (ad (2)), .int (r 7)])
  | 25 => .inr (5, [.int (r 0), .int (r 1), .int (r 2), .int (r 3), .int (r 4), .int (r 5), .ref (ad (3)), .int (r 7)])
  | 26 => .inr (5, [.int (r 0), .int (r 1), .int (r 2), .int (r 3), .int (r 4), .int (r 5), .ref (ad (4)), .int (r 7)])
  | 27 => .inr (5, [.int (r 0), .int (r 1), .int (r 2), .int (r 3), .int (r 4), .int (r 5), .ref (ad (5)), .int (r 7)])
  | 28 => .inr (1, [.int (r 0), .int (r 1), .int (r 2), .ref (ad (32))])
  | 29 => .inr (1, [.int (r 0), .int (r 1), .int (r 2), .ref (ad (33))])
  | 30 => .inr (1, [.int (r 0), .int (r 1), .int (r 2), .ref (ad (34))])
  | 31 => .inr (1, [.int (r 0), .int (r 1), .int (r 2), .ref (ad (35))])
  | 32 => .inl (gc 0, 4, .inl r)
  | 33 => .inl (gc 0, 4, .inl r)
  | 34 => .inl (gc 0, 4, .inl r)
  | 35 => .inl (gc 0, 4, .inl r)
  | 36 => .inr (3, [.ref (ad (37)), .int (r 1), .int (r 2), .int (r 3), .int (r 4), .int (r 5), .int (r 6), .ref (ad (15)), .ref (ad (38)), .ref (ad (41)), .int (r 10)])
  | 37 => .inl (gc 1, 4, .inl r)
  | 38 => .inr (4, [.int (r 0), .ref (ad (39)), .ref (ad (40))])
  | 39 => .inl (gc 2, ln 39, .inr (.inl lr))
  | 40 => .inl (gc 0, ln 40, .inl r)
  | _ => .inl (gc 2, ln 41, .inr (.inl lr))
def kT (gc : Nat → ClassId) : List (ClassId × FieldType) := [(gc 0, .int), (gc 1, .boolean), (gc 2, .long), (gc 3, .object "MonitorWays$Program"), (gc 4, .object "MonitorWays$Worker"), (gc 5, .object "MonitorWays$Monitor")]
theorem E_main {gc : Nat → ClassId} (ad ln : Nat → Nat) (r : Nat → Int32) (lr : Nat → Int64) : kE gc ad ln r lr 0 = .inr (6, [.ref (ad (1)), .ref (ad (14)), .ref (ad (36)), .int (r 3)]) := rfl
theorem E_pa {gc : Nat → ClassId} (ad ln : Nat → Nat) (r : Nat → Int32) (lr : Nat → Int64) : kE gc ad ln r lr 1 = .inl (gc 3, 4, .inr (.inr (.inr (.inr (fun k => some (ad (2 + k))))))) := rfl
theorem E_srch {gc : Nat → ClassId} (ad ln : Nat → Nat) (r : Nat → Int32) (lr : Nat → Int64) : kE gc ad ln r lr 36 = .inr (3, [.ref (ad (37)), .int (r 1), .int (r 2), .int (r 3), .int (r 4), .int (r 5), .int (r 6), .ref (ad (15)), .ref (ad (38)), .ref (ad (41)), .int (r 10)]) := rfl
theorem E_blk {gc : Nat → ClassId} (ad ln : Nat → Nat) (r : Nat → Int32) (lr : Nat → Int64) : kE gc ad ln r lr 37 = .inl (gc 1, 4, .inl r) := rfl
theorem E_sts {gc : Nat → ClassId} (ad ln : Nat → Nat) (r : Nat → Int32) (lr : Nat → Int64) : kE gc ad ln r lr 38 = .inr (4, [.int (r 0), .ref (ad (39)), .ref (ad (40))]) := rfl
theorem E_words {gc : Nat → ClassId} (ad ln : Nat → Nat) (r : Nat → Int32) (lr : Nat → Int64) : kE gc ad ln r lr 39 = .inl (gc 2, ln 39, .inr (.inl lr)) := rfl
theorem E_slots {gc : Nat → ClassId} (ad ln : Nat → Nat) (r : Nat → Int32) (lr : Nat → Int64) : kE gc ad ln r lr 40 = .inl (gc 0, ln 40, .inl r) := rfl
theorem E_outs {gc : Nat → ClassId} (ad ln : Nat → Nat) (r : Nat → Int32) (lr : Nat → Int64) : kE gc ad ln r lr 41 = .inl (gc 2, ln 41, .inr (.inl lr)) := rfl
theorem E_prog {gc : Nat → ClassId} {t : Nat} (ht : t < 4) (ad ln : Nat → Nat) (r : Nat → Int32) (lr : Nat → Int64) : kE gc ad ln r lr (2 + t) = .inr (2, [.ref (ad (6 + t)), .ref (ad (10 + t)), .int (r 2)]) := by
  rcases (show t = 0 ∨ t = 1 ∨ t = 2 ∨ t = 3 by omega) with rfl | rfl | rfl | rfl <;> rfl
theorem E_acts {gc : Nat → ClassId} {t : Nat} (ht : t < 4) (ad ln : Nat → Nat) (r : Nat → Int32) (lr : Nat → Int64) : kE gc ad ln r lr (6 + t) = .inl (gc 0, 6, .inl r) := by
  rcases (show t = 0 ∨ t = 1 ∨ t = 2 ∨ t = 3 by omega) with rfl | rfl | rfl | rfl <;> rfl
theorem E_opds {gc : Nat → ClassId} {t : Nat} (ht : t < 4) (ad ln : Nat → Nat) (r : Nat → Int32) (lr : Nat → Int64) : kE gc ad ln r lr (10 + t) = .inl (gc 0, 6, .inl r) := by
  rcases (show t = 0 ∨ t = 1 ∨ t = 2 ∨ t = 3 by omega) with rfl | rfl | rfl | rfl <;> rfl
theorem E_mach {gc : Nat → ClassId} {mi : Nat} (hmi : mi < 2) (ad ln : Nat → Nat) (r : Nat → Int32) (lr : Nat → Int64) : kE gc ad ln r lr (14 + mi) = .inr (0, [.ref (ad (16 + mi)), .ref (ad (18 + mi)), .int (r 2)]) := by
  rcases (show mi = 0 ∨ mi = 1 by omega) with rfl | rfl <;> rfl
theorem E_warr {gc : Nat → ClassId} {mi : Nat} (hmi : mi < 2) (ad ln : Nat → Nat) (r : Nat → Int32) (lr : Nat → Int64) : kE gc ad ln r lr (16 + mi) = .inl (gc 4, 4, .inr (.inr (.inr (.inr (fun k => some (ad (20 + 4 * mi + k))))))) := by
  rcases (show mi = 0 ∨ mi = 1 by omega) with rfl | rfl <;> rfl
theorem E_marr {gc : Nat → ClassId} {mi : Nat} (hmi : mi < 2) (ad ln : Nat → Nat) (r : Nat → Int32) (lr : Nat → Int64) : kE gc ad ln r lr (18 + mi) = .inl (gc 5, 2, .inr (.inr (.inr (.inr (fun k => some (ad (28 + 2 * mi + k))))))) := by
  rcases (show mi = 0 ∨ mi = 1 by omega) with rfl | rfl <;> rfl
theorem E_wk {gc : Nat → ClassId} {mi t : Nat} (hmi : mi < 2) (ht : t < 4) (ad ln : Nat → Nat) (r : Nat → Int32) (lr : Nat → Int64) : kE gc ad ln r lr (20 + 4 * mi + t) = .inr (5, [.int (r 0), .int (r 1), .int (r 2), .int (r 3), .int (r 4), .int (r 5), .ref (ad (2 + t)), .int (r 7)]) := by
  rcases (show mi = 0 ∨ mi = 1 by omega) with rfl | rfl <;> (rcases (show t = 0 ∨ t = 1 ∨ t = 2 ∨ t = 3 by omega) with rfl | rfl | rfl | rfl <;> rfl)
theorem E_mon {gc : Nat → ClassId} {mi m : Nat} (hmi : mi < 2) (hm : m < 2) (ad ln : Nat → Nat) (r : Nat → Int32) (lr : Nat → Int64) : kE gc ad ln r lr (28 + 2 * mi + m) = .inr (1, [.int (r 0), .int (r 1), .int (r 2), .ref (ad (32 + 2 * mi + m))]) := by
  rcases (show mi = 0 ∨ mi = 1 by omega) with rfl | rfl <;> (rcases (show m = 0 ∨ m = 1 by omega) with rfl | rfl <;> rfl)
theorem E_mset {gc : Nat → ClassId} {mi m : Nat} (hmi : mi < 2) (hm : m < 2) (ad ln : Nat → Nat) (r : Nat → Int32) (lr : Nat → Int64) : kE gc ad ln r lr (32 + 2 * mi + m) = .inl (gc 0, 4, .inl r) := by
  rcases (show mi = 0 ∨ mi = 1 by omega) with rfl | rfl <;> (rcases (show m = 0 ∨ m = 1 by omega) with rfl | rfl <;> rfl)
theorem sw_gen {x : Int32} {lo hi : Int} (h : ∀ k : Int, lo ≤ k → k ≤ hi → x ≠ Int32.ofInt k) : x.toInt < lo ∨ hi < x.toInt := by
  by_cases h1 : x.toInt < lo
  · exact Or.inl h1
  · by_cases h2 : hi < x.toInt
    · exact Or.inr h2
    · exact absurd (Int32.ofInt_toInt x).symm (h x.toInt (by omega) (by omega))
theorem sw_0_3 {x : Int32} (h0 : ¬ x = 0) (h1 : ¬ x = 1) (h2 : ¬ x = 2) (h3 : ¬ x = 3) : x.toInt < 0 ∨ 3 < x.toInt := by
  refine sw_gen (fun k q1 q2 => ?_)
  rcases (show k = 0 ∨ k = 1 ∨ k = 2 ∨ k = 3 by omega) with rfl | rfl | rfl | rfl
  · exact h0
  · exact h1
  · exact h2
  · exact h3
theorem sw_1_3 {x : Int32} (h1 : ¬ x = 1) (h2 : ¬ x = 2) (h3 : ¬ x = 3) : x.toInt < 1 ∨ 3 < x.toInt := by
  refine sw_gen (fun k q1 q2 => ?_)
  rcases (show k = 1 ∨ k = 2 ∨ k = 3 by omega) with rfl | rfl | rfl
  · exact h1
  · exact h2
  · exact h3
theorem sw_6_12 {x : Int32} (h6 : ¬ x = 6) (h7 : ¬ x = 7) (h8 : ¬ x = 8) (h9 : ¬ x = 9) (h10 : ¬ x = 10) (h11 : ¬ x = 11) (h12 : ¬ x = 12) : x.toInt < 6 ∨ 12 < x.toInt := by
  refine sw_gen (fun k q1 q2 => ?_)
  rcases (show k = 6 ∨ k = 7 ∨ k = 8 ∨ k = 9 ∨ k = 10 ∨ k = 11 ∨ k = 12 by omega) with rfl | rfl | rfl | rfl | rfl | rfl | rfl
  · exact h6
  · exact h7
  · exact h8
  · exact h9
  · exact h10
  · exact h11
  · exact h12
theorem sw_0_4 {x : Int32} (h0 : ¬ x = 0) (h1 : ¬ x = 1) (h2 : ¬ x = 2) (h3 : ¬ x = 3) (h4 : ¬ x = 4) : x.toInt < 0 ∨ 4 < x.toInt := by
  refine sw_gen (fun k q1 q2 => ?_)
  rcases (show k = 0 ∨ k = 1 ∨ k = 2 ∨ k = 3 ∨ k = 4 by omega) with rfl | rfl | rfl | rfl | rfl
  · exact h0
  · exact h1
  · exact h2
  · exact h3
  · exact h4
theorem lt_of_nle {a b : Nat} (ha : a < 2 ^ 31) (hb : b < 2 ^ 31) (h : ¬ nI a ≤ nI b) : b < a := by
  rcases Nat.lt_or_ge b a with h1 | h1
  · exact h1
  · exact absurd ((nI_leI ha hb).mpr h1) h
theorem in4_of {k s : Int32} {sz : Nat} (h1 : ¬ k < 0) (h2 : ¬ s ≤ k) (hsz : s = nI sz) (h4 : sz ≤ 4) : vp_in k 4 := by
  subst hsz
  rw [vp_in_iff]
  rw [Int32.lt_iff_toInt_lt] at h1
  rw [Int32.le_iff_toInt_le, nI_toInt (by omega)] at h2
  have h0 : (0 : Int32).toInt = 0 := rfl
  rw [h0] at h1
  omega
theorem nb_ite {c : Prop} [Decidable c] {a b : Int32} (ha : narrow .boolean (.int a) = .int a) (hb : narrow .boolean (.int b) = .int b) : narrow .boolean (.int (if c then a else b)) = .int (if c then a else b) := by
  split
  · exact ha
  · exact hb
theorem fb_ite {c : Prop} [Decidable c] {a b : Int32} (ha : fits .boolean (.int a) = true) (hb : fits .boolean (.int b) = true) : fits .boolean (.int (if c then a else b)) = true := by
  split
  · exact ha
  · exact hb
