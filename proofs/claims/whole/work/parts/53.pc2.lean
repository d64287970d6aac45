def bTH (x : TH) : Prop := (x.st < 8) ∧ (x.pl < 8) ∧ (x.kp < 8) ∧ (x.fi ≤ 1) ∧ (x.fp ≤ 1) ∧ (x.fs ≤ 1) ∧ (x.n ≤ 6) ∧ (x.r < 12 ^ x.n)
theorem bTH.st {x : TH} (h9 : bTH x) : x.st < 8 := h9.1
theorem bTH.pl {x : TH} (h9 : bTH x) : x.pl < 8 := h9.2.1
theorem bTH.kp {x : TH} (h9 : bTH x) : x.kp < 8 := h9.2.2.1
theorem bTH.fi {x : TH} (h9 : bTH x) : x.fi ≤ 1 := h9.2.2.2.1
theorem bTH.fp {x : TH} (h9 : bTH x) : x.fp ≤ 1 := h9.2.2.2.2.1
theorem bTH.fs {x : TH} (h9 : bTH x) : x.fs ≤ 1 := h9.2.2.2.2.2.1
theorem bTH.n {x : TH} (h9 : bTH x) : x.n ≤ 6 := h9.2.2.2.2.2.2.1
theorem bTH.r {x : TH} (h9 : bTH x) : x.r < 12 ^ x.n := h9.2.2.2.2.2.2.2
def bMO (y : MO) : Prop := (y.ow < 8) ∧ (y.de < 8) ∧ (y.q.length ≤ 4) ∧ (∀ v, v ∈ y.q → v < 4)
theorem bMO.ow {y : MO} (h9 : bMO y) : y.ow < 8 := h9.1
theorem bMO.de {y : MO} (h9 : bMO y) : y.de < 8 := h9.2.1
theorem bMO.len {y : MO} (h9 : bMO y) : y.q.length ≤ 4 := h9.2.2.1
theorem bMO.q {y : MO} (h9 : bMO y) : ∀ v, v ∈ y.q → v < 4 := h9.2.2.2
theorem okAS.bth {P : PR} {a : AS} (hP : okPR P) (h : okAS P a) {t : Nat} (ht : t < 4) : bTH (a.th t) := by
  have h1 := h.th t ht
  have h2 := hP.len t ht
  have h3 := h1.pl
  have h4 := h1.kp
  have h5 := h1.st
  have h6 := h1.n
  refine ⟨by omega, by omega, by omega, h1.fi, h1.fp, h1.fs, ?_, h1.r⟩
  by_cases q : (a.th t).st = 2
  · rw [if_pos q] at h6; have := h1.lt (by omega); omega
  · rw [if_neg q] at h6; omega
theorem okAS.bmo {P : PR} {a : AS} (hP : okPR P) (h : okAS P a) {m : Nat} (hm : m < 2) : bMO (a.mo m) := by
  have h1 := h.ow m hm
  refine ⟨by omega, ?_, h.len hm, fun v hv => (h.q m hm v hv).1⟩
  by_cases q : (a.mo m).ow = 0
  · rw [h.fr m hm q]; decide
  · have h2 := h.de m ((a.mo m).ow - 1) hm (by omega) (by omega)
    have h3 := hP.len ((a.mo m).ow - 1) (by omega)
    have h4 := (h.th ((a.mo m).ow - 1) (by omega)).pl
    omega
def flN (x : TH) : Nat := x.fi + 2 * x.fp + 4 * x.fs
def reN (x : TH) : Nat := 12 ^ x.n + x.r
def loN (x : TH) : Nat := x.st + x.pl * 2 ^ 3 + x.kp * 2 ^ 6 + flN x * 2 ^ 9
def wN (x : TH) : Nat := loN x + reN x * 2 ^ 12
theorem flN_lt {x : TH} (h : bTH x) : flN x < 8 := by have := h.fi; have := h.fp; have := h.fs; unfold flN; omega
theorem reN_lt {x : TH} (h : bTH x) : reN x < 2 ^ 23 := by
  have h1 := h.r
  have h2 : 12 ^ x.n ≤ 12 ^ 6 := Nat.pow_le_pow_right (by decide) h.n
  unfold reN
  have : (12 : Nat) ^ 6 = 2985984 := by decide
  omega
theorem loN_lt {x : TH} (h : bTH x) : loN x < 2 ^ 12 := by have := h.st; have := h.pl; have := h.kp; have := flN_lt h; unfold loN; omega
theorem wN_lt {x : TH} (h : bTH x) : wN x < 2 ^ 35 := by have := loN_lt h; have := reN_lt h; unfold wN; omega
theorem i01 {f : Nat} (hf : f ≤ 1) (k : Nat) : (if nI f = 0 then (0 : Int32) else nI k) = nI (k * f) := by
  have : f = 0 ∨ f = 1 := by omega
  rcases this with q | q <;> subst q
  · rw [if_pos (show nI 0 = 0 from rfl), Nat.mul_zero]; rfl
  · rw [if_neg (by decide), Nat.mul_one]
theorem wPack_eq {iv : Nat → Nat → Int32} {mi t : Nat} {x : TH} (h : CT (iv (20 + 4 * mi + t)) x) (hb : bTH x) : r_wPack iv mi t = lI (wN x) := by
  obtain ⟨e0, e1, e2, e3, e4, e5, e7⟩ := h
  have hlo := loN_lt hb
  have hre := reN_lt hb
  have hst := hb.st
  have hpl := hb.pl
  have hkp := hb.kp
  have hfl := flN_lt hb
  unfold r_wPack
  rw [e0, e1, e2, e3, e4, e5, e7]
  have f1 := i01 hb.fi 1
  have f2 := i01 hb.fp 2
  have f3 := i01 hb.fs 4
  have f1 : (if nI x.fi = 0 then (0 : Int32) else 1) = nI (1 * x.fi) := f1
  have f2 : (if nI x.fp = 0 then (0 : Int32) else 2) = nI (2 * x.fp) := f2
  have f3 : (if nI x.fs = 0 then (0 : Int32) else 4) = nI (4 * x.fs) := f3
  rw [f1, f2, f3, iO, iO]
  have g : (1 * x.fi ||| 2 * x.fp ||| 4 * x.fs) = flN x := by
    have h1 := hb.fi
    have h2 := hb.fp
    have h3 := hb.fs
    unfold flN
    generalize x.fi = a at *
    generalize x.fp = b at *
    generalize x.fs = c at *
    have : a = 0 ∨ a = 1 := by omega
    have : b = 0 ∨ b = 1 := by omega
    have : c = 0 ∨ c = 1 := by omega
    rcases ‹a = 0 ∨ a = 1› with q | q <;> rcases ‹b = 0 ∨ b = 1› with q2 | q2 <;> rcases ‹c = 0 ∨ c = 1› with q3 | q3 <;> subst q q2 q3 <;> rfl
  rw [g]
  rw [show (3 : Int32) &&& 31 = nI 3 from rfl, show (6 : Int32) &&& 31 = nI 6 from rfl, show (9 : Int32) &&& 31 = nI 9 from rfl, show (12 : Int32).toInt64 &&& 63 = lI 12 from rfl]
  rw [iL (by decide) (by decide), iL (by decide) (by decide), iL (by decide) (by decide), iO, iO, iO]
  rw [orAdd (show x.st < 2 ^ 3 by omega), orAdd (show x.st + x.pl * 2 ^ 3 < 2 ^ 6 by omega), orAdd (show x.st + x.pl * 2 ^ 3 + x.kp * 2 ^ 6 < 2 ^ 9 by omega)]
  have hlo' : x.st + x.pl * 2 ^ 3 + x.kp * 2 ^ 6 + flN x * 2 ^ 9 = loN x := rfl
  rw [hlo', show 12 ^ x.n + x.r = reN x from rfl, q64 (show reN x < 2 ^ 31 by omega), q64 (show loN x < 2 ^ 31 by omega)]
  show lI (reN x) <<< lI 12 ||| lI (loN x) = _
  rw [jL (by decide) (by decide), jO, orAdd' hlo]
  rfl
theorem wUnp_eq {iv : Nat → Nat → Int32} {mi t : Nat} {x : TH} (hb : bTH x) {M : Nat} (hM : M < 2 ^ 23) : CT (m_wUnpack iv mi t (lI (wN x + M * 2 ^ 40)) (20 + 4 * mi + t)) x ∧ ∀ c, ¬ c = 20 + 4 * mi + t → m_wUnpack iv mi t (lI (wN x + M * 2 ^ 40)) c = iv c := by
  have hlo := loN_lt hb
  have hre := reN_lt hb
  have hst := hb.st
  have hpl := hb.pl
  have hkp := hb.kp
  have hfl := flN_lt hb
  have hw := wN_lt hb
  constructor
  · unfold m_wUnpack
    have e1 : (lI (wN x + M * 2 ^ 40)).toInt32 &&& 4095 = nI (loN x) := by
      rw [j32, show (4095 : Int32) = nI 4095 from rfl, iA, show (4095 : Nat) = 2 ^ 12 - 1 from rfl, modAnd]
      congr 1
      unfold wN; omega
    have e2 : ((((lI (wN x + M * 2 ^ 40)).toUInt64 >>> ((12 : Int32).toInt64.toUInt64 &&& Int64.toUInt64 63)).toInt64).toInt32) &&& 8388607 = nI (reN x) := by
      rw [uR (k := 12) (by decide) (by decide) (by omega), j32, show (8388607 : Int32) = nI 8388607 from rfl, iA, show (8388607 : Nat) = 2 ^ 23 - 1 from rfl, modAnd]
      congr 1
      unfold wN; omega
    rw [e1, e2]
    rw [show (3 : Int32) &&& 31 = nI 3 from rfl, show (6 : Int32) &&& 31 = nI 6 from rfl, show (9 : Int32) &&& 31 = nI 9 from rfl]
    have hl31 : loN x < 2 ^ 31 := by omega
    rw [iR (by decide) (by decide) hl31, iR (by decide) (by decide) hl31, iR (by decide) (by decide) hl31]
    have a1 : nI (loN x) &&& 7 = nI x.st := by
      rw [show (7 : Int32) = nI 7 from rfl, iA, show (7 : Nat) = 2 ^ 3 - 1 from rfl, modAnd]; congr 1; unfold loN; omega
    have a2 : nI (loN x / 2 ^ 3) &&& 7 = nI x.pl := by
      rw [show (7 : Int32) = nI 7 from rfl, iA, show (7 : Nat) = 2 ^ 3 - 1 from rfl, modAnd]; congr 1; unfold loN; omega
    have a3 : nI (loN x / 2 ^ 6) &&& 7 = nI x.kp := by
      rw [show (7 : Int32) = nI 7 from rfl, iA, show (7 : Nat) = 2 ^ 3 - 1 from rfl, modAnd]; congr 1; unfold loN; omega
    have a4 : loN x / 2 ^ 9 = flN x := by unfold loN; omega
    rw [a1, a2, a3, a4]
    have b1 : (if nI (flN x) &&& 1 = 0 then (0 : Int32) else 1) = nI x.fi ∧ (if nI (flN x) &&& 2 = 0 then (0 : Int32) else 1) = nI x.fp ∧ (if nI (flN x) &&& 4 = 0 then (0 : Int32) else 1) = nI x.fs := by
      have h1 := hb.fi
      have h2 := hb.fp
      have h3 := hb.fs
      unfold flN
      generalize x.fi = a at *
      generalize x.fp = b at *
      generalize x.fs = c at *
      have : a = 0 ∨ a = 1 := by omega
      have : b = 0 ∨ b = 1 := by omega
      have : c = 0 ∨ c = 1 := by omega
      rcases ‹a = 0 ∨ a = 1› with q | q <;> rcases ‹b = 0 ∨ b = 1› with q2 | q2 <;> rcases ‹c = 0 ∨ c = 1› with q3 | q3 <;> subst q q2 q3 <;> decide
    rw [b1.1, b1.2.1, b1.2.2]
    unfold CT
    simp [up2, upd, reN]
  · intro c hc
    unfold m_wUnpack
    rw [u2n hc, u2n hc, u2n hc, u2n hc, u2n hc, u2n hc, u2n hc]
def qN : List Nat → Nat
  | [] => 0
  | v :: l => v + 4 * qN l
theorem qN_lt : ∀ (l : List Nat), (∀ v, v ∈ l → v < 4) → qN l < 4 ^ l.length
  | [], _ => by decide
  | v :: l, h => by
    have h1 := h v (by simp)
    have h2 := qN_lt l (fun w hw => h w (by simp [hw]))
    rw [qN, List.length_cons, Nat.pow_succ]; omega
theorem qN_take : ∀ (l : List Nat) (k : Nat), k < l.length → qN (l.take (k + 1)) = qN (l.take k) + l.getD k 0 * 4 ^ k
  | [], k, h => absurd h (Nat.not_lt_zero _)
  | v :: l, 0, _ => by simp [qN]
  | v :: l, k + 1, h => by
    have h1 := qN_take l k (by simpa using h)
    rw [List.take_succ_cons, List.take_succ_cons, qN, qN, h1, List.getD_cons_succ, Nat.pow_succ]
    have : l.getD k 0 * (4 ^ k * 4) = 4 * (l.getD k 0 * 4 ^ k) := by rw [← Nat.mul_assoc, Nat.mul_comm]
    omega
theorem qN_get : ∀ (l : List Nat) (j : Nat), (∀ v, v ∈ l → v < 4) → j < l.length → qN l / 4 ^ j % 4 = l.getD j 0
  | [], j, _, h => absurd h (Nat.not_lt_zero _)
  | v :: l, 0, hv, _ => by
    have h1 := hv v (by simp)
    simp [qN]; omega
  | v :: l, j + 1, hv, h => by
    have h1 := hv v (by simp)
    have h2 := qN_get l j (fun w hw => hv w (by simp [hw])) (by simpa using h)
    rw [List.getD_cons_succ, ← h2, qN, Nat.pow_succ, Nat.mul_comm (4 ^ j) 4, ← Nat.div_div_eq_div_mul, show (v + 4 * qN l) / 4 = qN l by omega]
def mB (y : MO) : Nat := y.ow + y.de * 2 ^ 3 + y.q.length * 2 ^ 6
def mN (y : MO) : Nat := mB y + qN y.q * 2 ^ 9
theorem mB_lt {y : MO} (h : bMO y) : mB y < 2 ^ 9 := by have := h.ow; have := h.de; have := h.len; unfold mB; omega
theorem qN_256 {y : MO} (h : bMO y) : qN y.q < 256 := by
  have h1 := qN_lt y.q h.q
  have h2 : 4 ^ y.q.length ≤ 4 ^ 4 := Nat.pow_le_pow_right (by decide) h.len
  have : (4 : Nat) ^ 4 = 256 := by decide
  omega
theorem mN_lt {y : MO} (h : bMO y) : mN y < 2 ^ 17 := by have := mB_lt h; have := qN_256 h; unfold mN; omega
theorem shk {k : Nat} (hk : k < 4) : ((9 : Int32) + (2 * nI k)) &&& 31 = nI (9 + 2 * k) ∧ (BitVec.ofNat 32 (9 + 2 * k)).smod 32 = BitVec.ofNat 32 (9 + 2 * k) := by
  have : k = 0 ∨ k = 1 ∨ k = 2 ∨ k = 3 := by omega
  rcases this with q | q | q | q <;> subst q <;> decide
theorem mPk_eq {iv : Nat → Nat → Int32} {c B : Nat} {l : List Nat} (hB : B < 2 ^ 9) (hl : l.length ≤ 4) (hq : ∀ v, v ∈ l → v < 4) (hr : ∀ j, j < l.length → iv c j = nI (l.getD j 0)) : ∀ k, k ≤ l.length → mPk iv c (nI B) k = nI (B + qN (l.take k) * 2 ^ 9)
  | 0, _ => by simp [mPk, qN]
  | k + 1, hk => by
    have ih := mPk_eq hB hl hq hr k (by omega)
    have hs := shk (k := k) (by omega)
    rw [mPk, ih, hr k (by omega), hs.1, iL hs.2 (by omega), iO, qN_take l k (by omega)]
    congr 1
    have h1 : qN (l.take k) < 4 ^ k := by
      have := qN_lt (l.take k) (fun v hv => hq v (List.mem_of_mem_take hv))
      rwa [List.length_take, Nat.min_eq_left (by omega)] at this
    have h2 : (4 : Nat) ^ k = 2 ^ (2 * k) := by rw [Nat.pow_mul]
    have h3 : 2 ^ (9 + 2 * k) = 2 ^ (2 * k) * 2 ^ 9 := by rw [Nat.add_comm, Nat.pow_add]
    rw [orAdd (by rw [h3, ← h2]; omega), h3, h2, Nat.add_mul, Nat.add_assoc, Nat.mul_assoc]
theorem mPack_eq {iv : Nat → Nat → Int32} {mi m : Nat} {y : MO} (h : CM (iv (28 + 2 * mi + m)) (iv (32 + 2 * mi + m)) y) (hb : bMO y) : r_mPack iv mi m y.q.length = lI (mN y) := by
  obtain ⟨e0, e1, e2, e3⟩ := h
  have h1 := hb.ow
  have h2 := hb.de
  have h3 := hb.len
  have hB := mB_lt hb
  have hN := mN_lt hb
  unfold r_mPack
  rw [e0, e1, Int32.sub_add_cancel, show (3 : Int32) &&& 31 = nI 3 from rfl, show (6 : Int32) &&& 31 = nI 6 from rfl, iL (by decide) (by decide), iL (by decide) (by decide), iO, iO, orAdd (show y.ow < 2 ^ 3 by omega), orAdd (show y.ow + y.de * 2 ^ 3 < 2 ^ 6 by omega)]
  rw [show y.ow + y.de * 2 ^ 3 + y.q.length * 2 ^ 6 = mB y from rfl, mPk_eq hB h3 hb.q e3 _ (Nat.le_refl _), List.take_length, show mB y + qN y.q * 2 ^ 9 = mN y from rfl, q64 (by omega)]
  rfl
