theorem bA (w a b : Nat) : BitVec.ofNat w a &&& BitVec.ofNat w b = BitVec.ofNat w (a &&& b) := by
  apply BitVec.eq_of_toNat_eq
  rw [BitVec.toNat_and, BitVec.toNat_ofNat, BitVec.toNat_ofNat, BitVec.toNat_ofNat, Nat.and_mod_two_pow]
theorem bO (w a b : Nat) : BitVec.ofNat w a ||| BitVec.ofNat w b = BitVec.ofNat w (a ||| b) := by
  apply BitVec.eq_of_toNat_eq
  rw [BitVec.toNat_or, BitVec.toNat_ofNat, BitVec.toNat_ofNat, BitVec.toNat_ofNat, Nat.or_mod_two_pow]
theorem iA (a b : Nat) : nI a &&& nI b = nI (a &&& b) := by
  apply Int32.toBitVec_inj.1
  show (nI a).toBitVec &&& (nI b).toBitVec = _
  exact bA 32 a b
theorem iO (a b : Nat) : nI a ||| nI b = nI (a ||| b) := by
  apply Int32.toBitVec_inj.1
  exact bO 32 a b
def lI (n : Nat) : Int64 := Int64.ofNat n
theorem jA (a b : Nat) : lI a &&& lI b = lI (a &&& b) := by
  apply Int64.toBitVec_inj.1
  exact bA 64 a b
theorem jO (a b : Nat) : lI a ||| lI b = lI (a ||| b) := by
  apply Int64.toBitVec_inj.1
  exact bO 64 a b
theorem iL {a k : Nat} (hk : (BitVec.ofNat 32 k).smod 32 = BitVec.ofNat 32 k) (h : k < 32) : nI a <<< nI k = nI (a * 2 ^ k) := by
  apply Int32.toBitVec_inj.1
  rw [Int32.toBitVec_shiftLeft]
  show BitVec.ofNat 32 a <<< (BitVec.ofNat 32 k).smod 32 = BitVec.ofNat 32 (a * 2 ^ k)
  rw [hk]
  apply BitVec.eq_of_toNat_eq
  rw [BitVec.shiftLeft_eq', BitVec.toNat_shiftLeft, BitVec.toNat_ofNat, BitVec.toNat_ofNat, BitVec.toNat_ofNat, Nat.mod_eq_of_lt (show k < 2 ^ 32 by omega), Nat.shiftLeft_eq, Nat.mul_mod, Nat.mod_mod, ← Nat.mul_mod]
theorem jL {a k : Nat} (hk : (BitVec.ofNat 64 k).smod 64 = BitVec.ofNat 64 k) (h : k < 64) : lI a <<< lI k = lI (a * 2 ^ k) := by
  apply Int64.toBitVec_inj.1
  rw [Int64.toBitVec_shiftLeft]
  show BitVec.ofNat 64 a <<< (BitVec.ofNat 64 k).smod 64 = BitVec.ofNat 64 (a * 2 ^ k)
  rw [hk]
  apply BitVec.eq_of_toNat_eq
  rw [BitVec.shiftLeft_eq', BitVec.toNat_shiftLeft, BitVec.toNat_ofNat, BitVec.toNat_ofNat, BitVec.toNat_ofNat, Nat.mod_eq_of_lt (show k < 2 ^ 64 by omega), Nat.shiftLeft_eq, Nat.mul_mod, Nat.mod_mod, ← Nat.mul_mod]
theorem iR {a k : Nat} (hk : (BitVec.ofNat 32 k).smod 32 = BitVec.ofNat 32 k) (h : k < 32) (ha : a < 2 ^ 31) : nI a >>> nI k = nI (a / 2 ^ k) := by
  apply Int32.toBitVec_inj.1
  rw [Int32.toBitVec_shiftRight]
  show (BitVec.ofNat 32 a).sshiftRight' ((BitVec.ofNat 32 k).smod 32) = BitVec.ofNat 32 (a / 2 ^ k)
  rw [hk]
  show (BitVec.ofNat 32 a).sshiftRight (BitVec.ofNat 32 k).toNat = _
  have hm : (BitVec.ofNat 32 a).msb = false := by
    rw [BitVec.msb_eq_false_iff_two_mul_lt, BitVec.toNat_ofNat, Nat.mod_eq_of_lt (by omega)]; omega
  rw [BitVec.sshiftRight_eq_of_msb_false hm]
  apply BitVec.eq_of_toNat_eq
  rw [BitVec.toNat_ushiftRight, BitVec.toNat_ofNat, BitVec.toNat_ofNat, BitVec.toNat_ofNat, Nat.mod_eq_of_lt (show k < 2 ^ 32 by omega), Nat.shiftRight_eq_div_pow, Nat.mod_eq_of_lt (show a < 2 ^ 32 by omega), Nat.mod_eq_of_lt (Nat.lt_of_le_of_lt (Nat.div_le_self _ _) (by omega))]
theorem jR {a k : Nat} (hk : (BitVec.ofNat 64 k).smod 64 = BitVec.ofNat 64 k) (h : k < 64) (ha : a < 2 ^ 63) : lI a >>> lI k = lI (a / 2 ^ k) := by
  apply Int64.toBitVec_inj.1
  rw [Int64.toBitVec_shiftRight]
  show (BitVec.ofNat 64 a).sshiftRight' ((BitVec.ofNat 64 k).smod 64) = BitVec.ofNat 64 (a / 2 ^ k)
  rw [hk]
  show (BitVec.ofNat 64 a).sshiftRight (BitVec.ofNat 64 k).toNat = _
  have hm : (BitVec.ofNat 64 a).msb = false := by
    rw [BitVec.msb_eq_false_iff_two_mul_lt, BitVec.toNat_ofNat, Nat.mod_eq_of_lt (by omega)]; omega
  rw [BitVec.sshiftRight_eq_of_msb_false hm]
  apply BitVec.eq_of_toNat_eq
  rw [BitVec.toNat_ushiftRight, BitVec.toNat_ofNat, BitVec.toNat_ofNat, BitVec.toNat_ofNat, Nat.mod_eq_of_lt (show k < 2 ^ 64 by omega), Nat.shiftRight_eq_div_pow, Nat.mod_eq_of_lt (show a < 2 ^ 64 by omega), Nat.mod_eq_of_lt (Nat.lt_of_le_of_lt (Nat.div_le_self _ _) (by omega))]
theorem uR {a k : Nat} {c : UInt64} (hk : c.toBitVec % 64 = BitVec.ofNat 64 k) (h : k < 64) (ha : a < 2 ^ 64) : ((lI a).toUInt64 >>> c).toInt64 = lI (a / 2 ^ k) := by
  apply Int64.toBitVec_inj.1
  show ((lI a).toUInt64 >>> c).toBitVec = BitVec.ofNat 64 (a / 2 ^ k)
  rw [UInt64.toBitVec_shiftRight, hk]
  show (BitVec.ofNat 64 a) >>> (BitVec.ofNat 64 k) = _
  apply BitVec.eq_of_toNat_eq
  rw [BitVec.ushiftRight_eq', BitVec.toNat_ushiftRight, BitVec.toNat_ofNat, BitVec.toNat_ofNat, BitVec.toNat_ofNat, Nat.mod_eq_of_lt (show k < 2 ^ 64 by omega), Nat.shiftRight_eq_div_pow, Nat.mod_eq_of_lt ha, Nat.mod_eq_of_lt (Nat.lt_of_le_of_lt (Nat.div_le_self _ _) (by omega))]
theorem j32 (a : Nat) : (lI a).toInt32 = nI a := Int64.toInt32_ofNat'
theorem orAdd {a b k : Nat} (h : a < 2 ^ k) : a ||| b * 2 ^ k = a + b * 2 ^ k := by
  rw [← Nat.shiftLeft_eq, Nat.or_comm, ← Nat.shiftLeft_add_eq_or_of_lt h, Nat.add_comm]
theorem orAdd' {a b k : Nat} (h : a < 2 ^ k) : b * 2 ^ k ||| a = a + b * 2 ^ k := by rw [Nat.or_comm, orAdd h]
theorem modAnd (a k : Nat) : a &&& (2 ^ k - 1) = a % 2 ^ k := Nat.and_two_pow_sub_one_eq_mod a k
theorem lAdd (a b : Nat) : lI (a + b) = lI a + lI b := Int64.ofNat_add a b
theorem lMul (a b : Nat) : lI (a * b) = lI a * lI b := Int64.ofNat_mul a b
theorem lE {a b : Nat} (ha : a < 2 ^ 63) (hb : b < 2 ^ 63) : lI a = lI b ↔ a = b := by
  constructor
  · intro h
    have := congrArg Int64.toInt h
    rw [lI, lI, Int64.toInt_ofNat_of_lt ha, Int64.toInt_ofNat_of_lt hb] at this
    omega
  · intro h; rw [h]
theorem lLt {a b : Nat} (ha : a < 2 ^ 63) (hb : b < 2 ^ 63) : lI a < lI b ↔ a < b := Int64.ofNat_lt_iff_lt ha hb
