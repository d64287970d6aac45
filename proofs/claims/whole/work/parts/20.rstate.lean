/-! THE REFERENCE'S CELLS: 0 the object, 1 actions, 2 operands, 3 lengths, 4 place, 5 status, 6 kept, 7 letters, 8 result, 9 interrupted, 10 permit, 11 odd, 12 owner, 13 count, 14 size, 15 set, 16 present, 17 met, 18 outcomes, 19 blocks -/
def rE (gc : Nat → ClassId) : KE := fun ad ln r lr c => match c with
  | 0 => .inr (7, [.int (r 0), .ref (ad 1), .ref (ad 2), .ref (ad 3), .ref (ad 4), .ref (ad 5), .ref (ad 6), .ref (ad 7), .ref (ad 8), .ref (ad 9), .ref (ad 10), .ref (ad 11), .ref (ad 12), .ref (ad 13), .ref (ad 14), .ref (ad 15), .ref (ad 16), .int (r 17), .ref (ad 17), .int (r 19), .int (r 20), .int (r 21), .int (r 22), .int (r 23), .ref (ad 18), .ref (ad 19), .int (r 26)])
  | 1 => .inl (gc 0, 24, .inl r)
  | 2 => .inl (gc 0, 24, .inl r)
  | 3 => .inl (gc 0, 4, .inl r)
  | 4 => .inl (gc 0, 4, .inl r)
  | 5 => .inl (gc 0, 4, .inl r)
  | 6 => .inl (gc 0, 4, .inl r)
  | 7 => .inl (gc 0, 4, .inl r)
  | 8 => .inl (gc 2, 4, .inr (.inl lr))
  | 9 => .inl (gc 1, 4, .inl r)
  | 10 => .inl (gc 1, 4, .inl r)
  | 11 => .inl (gc 1, 4, .inl r)
  | 12 => .inl (gc 0, 2, .inl r)
  | 13 => .inl (gc 0, 2, .inl r)
  | 14 => .inl (gc 0, 2, .inl r)
  | 15 => .inl (gc 0, 8, .inl r)
  | 16 => .inl (gc 2, 5, .inr (.inl lr))
  | 17 => .inl (gc 2, 15005, .inr (.inl lr))
  | 18 => .inl (gc 2, 3001, .inr (.inl lr))
  | _ => .inl (gc 1, 4, .inl r)
theorem R_0 {gc : Nat → ClassId} (ad ln : Nat → Nat) (r : Nat → Int32) (lr : Nat → Int64) : rE gc ad ln r lr 0 = .inr (7, [.int (r 0), .ref (ad 1), .ref (ad 2), .ref (ad 3), .ref (ad 4), .ref (ad 5), .ref (ad 6), .ref (ad 7), .ref (ad 8), .ref (ad 9), .ref (ad 10), .ref (ad 11), .ref (ad 12), .ref (ad 13), .ref (ad 14), .ref (ad 15), .ref (ad 16), .int (r 17), .ref (ad 17), .int (r 19), .int (r 20), .int (r 21), .int (r 22), .int (r 23), .ref (ad 18), .ref (ad 19), .int (r 26)]) := rfl
theorem R_1 {gc : Nat → ClassId} (ad ln : Nat → Nat) (r : Nat → Int32) (lr : Nat → Int64) : rE gc ad ln r lr 1 = .inl (gc 0, 24, .inl r) := rfl
theorem R_2 {gc : Nat → ClassId} (ad ln : Nat → Nat) (r : Nat → Int32) (lr : Nat → Int64) : rE gc ad ln r lr 2 = .inl (gc 0, 24, .inl r) := rfl
theorem R_3 {gc : Nat → ClassId} (ad ln : Nat → Nat) (r : Nat → Int32) (lr : Nat → Int64) : rE gc ad ln r lr 3 = .inl (gc 0, 4, .inl r) := rfl
theorem R_4 {gc : Nat → ClassId} (ad ln : Nat → Nat) (r : Nat → Int32) (lr : Nat → Int64) : rE gc ad ln r lr 4 = .inl (gc 0, 4, .inl r) := rfl
theorem R_5 {gc : Nat → ClassId} (ad ln : Nat → Nat) (r : Nat → Int32) (lr : Nat → Int64) : rE gc ad ln r lr 5 = .inl (gc 0, 4, .inl r) := rfl
theorem R_6 {gc : Nat → ClassId} (ad ln : Nat → Nat) (r : Nat → Int32) (lr : Nat → Int64) : rE gc ad ln r lr 6 = .inl (gc 0, 4, .inl r) := rfl
theorem R_7 {gc : Nat → ClassId} (ad ln : Nat → Nat) (r : Nat → Int32) (lr : Nat → Int64) : rE gc ad ln r lr 7 = .inl (gc 0, 4, .inl r) := rfl
theorem R_8 {gc : Nat → ClassId} (ad ln : Nat → Nat) (r : Nat → Int32) (lr : Nat → Int64) : rE gc ad ln r lr 8 = .inl (gc 2, 4, .inr (.inl lr)) := rfl
theorem R_9 {gc : Nat → ClassId} (ad ln : Nat → Nat) (r : Nat → Int32) (lr : Nat → Int64) : rE gc ad ln r lr 9 = .inl (gc 1, 4, .inl r) := rfl
theorem R_10 {gc : Nat → ClassId} (ad ln : Nat → Nat) (r : Nat → Int32) (lr : Nat → Int64) : rE gc ad ln r lr 10 = .inl (gc 1, 4, .inl r) := rfl
theorem R_11 {gc : Nat → ClassId} (ad ln : Nat → Nat) (r : Nat → Int32) (lr : Nat → Int64) : rE gc ad ln r lr 11 = .inl (gc 1, 4, .inl r) := rfl
theorem R_12 {gc : Nat → ClassId} (ad ln : Nat → Nat) (r : Nat → Int32) (lr : Nat → Int64) : rE gc ad ln r lr 12 = .inl (gc 0, 2, .inl r) := rfl
theorem R_13 {gc : Nat → ClassId} (ad ln : Nat → Nat) (r : Nat → Int32) (lr : Nat → Int64) : rE gc ad ln r lr 13 = .inl (gc 0, 2, .inl r) := rfl
theorem R_14 {gc : Nat → ClassId} (ad ln : Nat → Nat) (r : Nat → Int32) (lr : Nat → Int64) : rE gc ad ln r lr 14 = .inl (gc 0, 2, .inl r) := rfl
theorem R_15 {gc : Nat → ClassId} (ad ln : Nat → Nat) (r : Nat → Int32) (lr : Nat → Int64) : rE gc ad ln r lr 15 = .inl (gc 0, 8, .inl r) := rfl
theorem R_16 {gc : Nat → ClassId} (ad ln : Nat → Nat) (r : Nat → Int32) (lr : Nat → Int64) : rE gc ad ln r lr 16 = .inl (gc 2, 5, .inr (.inl lr)) := rfl
theorem R_17 {gc : Nat → ClassId} (ad ln : Nat → Nat) (r : Nat → Int32) (lr : Nat → Int64) : rE gc ad ln r lr 17 = .inl (gc 2, 15005, .inr (.inl lr)) := rfl
theorem R_18 {gc : Nat → ClassId} (ad ln : Nat → Nat) (r : Nat → Int32) (lr : Nat → Int64) : rE gc ad ln r lr 18 = .inl (gc 2, 3001, .inr (.inl lr)) := rfl
theorem R_19 {gc : Nat → ClassId} (ad ln : Nat → Nat) (r : Nat → Int32) (lr : Nat → Int64) : rE gc ad ln r lr 19 = .inl (gc 1, 4, .inl r) := rfl
def lenL (tc : Nat) : Nat := if tc = 16 then 5 else 15005
theorem lenL_lt (tc : Nat) : lenL tc < 2 ^ 31 := by unfold lenL; split <;> decide
theorem R_la {gc : Nat → ClassId} {tc : Nat} (h : tc = 16 ∨ tc = 17) (ad ln : Nat → Nat) (r : Nat → Int32) (lr : Nat → Int64) : rE gc ad ln r lr tc = .inl (gc 2, lenL tc, .inr (.inl lr)) := by
  rcases h with rfl | rfl <;> rfl
theorem vb_ite {c : Prop} [Decidable c] {a b : Int32} (ha : vp_nar .boolean a = a) (hb : vp_nar .boolean b = b) : vp_nar .boolean (if c then a else b) = if c then a else b := by
  split
  · exact ha
  · exact hb
