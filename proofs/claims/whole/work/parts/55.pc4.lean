def tR (t : Nat) (x : TH) : Nat := ((((x.r * 8 + x.n) * 8 + pR 4 t x) * 8 + x.st) * 8 + x.kp) * 8 + flN x
def qA4 (l : List Nat) (j : Nat) : Nat := if l.length ≤ j then 0 else l.getD j 0
def mR1 (z : Nat) (y : MO) : Nat := ((((((z * 8 + y.ow) * 8 + y.de) * 8 + y.q.length) * 4 + qA4 y.q 0) * 4 + qA4 y.q 1) * 4 + qA4 y.q 2) * 4 + qA4 y.q 3
def mR (a : AS) : Nat := mR1 (mR1 0 (a.mo 0)) (a.mo 1)
def cR (a : AS) (j : Nat) : Nat := if j < 4 then tR j (a.th j) else mR a
theorem pR_lt {P : PR} {a : AS} (hP : okPR P) (h : okAS P a) {t : Nat} (ht : t < 4) : pR 4 t (a.th t) < 8 := by
  have h1 := h.th t ht
  have h2 := hP.len t ht
  have h3 := h1.pl
  unfold pR
  split <;> omega
theorem r_lt {x : TH} (h : bTH x) : x.r < 2 ^ 22 := by
  have h1 := h.r
  have h2 : 12 ^ x.n ≤ 12 ^ 6 := Nat.pow_le_pow_right (by decide) h.n
  have : (12 : Nat) ^ 6 = 2985984 := by decide
  omega
theorem tR_lt {x : TH} (h : bTH x) {t : Nat} (hp : pR 4 t x < 8) : tR t x < 2 ^ 37 := by
  have := h.st; have := h.kp; have := h.n; have := flN_lt h; have := r_lt h
  unfold tR; omega
theorem qA4_lt {y : MO} (h : bMO y) (j : Nat) : qA4 y.q j < 4 := by
  unfold qA4
  split
  · decide
  · exact h.q _ (getD_mem (by omega))
theorem mR1_lt {y : MO} (h : bMO y) (z : Nat) : mR1 z y < (z + 1) * 2 ^ 17 := by
  have := h.ow; have := h.de; have := h.len; have := qA4_lt h 0; have := qA4_lt h 1; have := qA4_lt h 2; have := qA4_lt h 3
  unfold mR1; omega
theorem mR_lt {a : AS} (h : bAS a) : mR a < 2 ^ 34 := by
  have h1 := mR1_lt (h.mo 0 (by decide)) 0
  have h2 := mR1_lt (h.mo 1 (by decide)) (mR1 0 (a.mo 0))
  unfold mR; omega
theorem l01 {f : Nat} (hf : f ≤ 1) (k : Nat) (hk : k < 8) : (if nI f = 0 then (0 : Int32) else nI k).toInt64 = lI (k * f) := by
  rw [i01 hf k, q64 (by have : k * f ≤ 8 * 1 := Nat.mul_le_mul (by omega) hf; omega)]; rfl
theorem tpack_eq {jv : Nat → Nat → Int32} {lv : Nat → Nat → Int64} {t : Nat} {x : TH} (h : RT jv lv 4 t x) (hb : bTH x) (hp : pR 4 t x < 8) : r_oTpack jv lv t = lI (tR t x) := by
  obtain ⟨e5, e4, e6, e7, e8, e9, e10, e11⟩ := h
  have h1 := hb.st; have h2 := hb.kp; have h3 := hb.n; have h4 := hb.fi; have h5 := hb.fp; have h6 := hb.fs
  unfold r_oTpack
  rw [e5, e4, e6, e7, e8, e9, e10, e11]
  have f1 : (if nI x.fi = 0 then (0 : Int32) else 1).toInt64 = lI (1 * x.fi) := l01 hb.fi 1 (by decide)
  have f2 : (if nI x.fp = 0 then (0 : Int32) else 2).toInt64 = lI (2 * x.fp) := l01 hb.fp 2 (by decide)
  have f3 : (if nI x.fs = 0 then (0 : Int32) else 4).toInt64 = lI (4 * x.fs) := l01 hb.fs 4 (by decide)
  rw [f1, f2, f3, q64 (show x.n < 2 ^ 31 by omega), q64 (show pR 4 t x < 2 ^ 31 by omega), q64 (show x.st < 2 ^ 31 by omega), q64 (show x.kp < 2 ^ 31 by omega)]
  show (((((((lI x.r * lI 8 + lI x.n) * lI 8 + lI (pR 4 t x)) * lI 8 + lI x.st) * lI 8 + lI x.kp) * lI 8 + lI (1 * x.fi)) + lI (2 * x.fp)) + lI (4 * x.fs)) = _
  simp only [← lAdd, ← lMul]
  congr 1
  unfold tR flN; omega
theorem ow1 (x : Int64) {w : Nat} (hw : w < 2 ^ 31) : x + (nI w - 1).toInt64 + 1 = x + lI w := by
  rw [Int64.add_assoc]
  congr 1
  by_cases q : w = 0
  · subst q; decide
  · rw [qpred (by omega), q64 (by omega), show (1 : Int64) = Int64.ofNat 1 from rfl, ← Int64.ofNat_add, Nat.sub_add_cancel (by omega)]; rfl
theorem u2Ls {f : Nat → Nat → Int64} {c k : Nat} {v : Int64} : up2L f c k v c k = v := by simp [up2L, vp_updL]
theorem u2Lk {f : Nat → Nat → Int64} {c k j : Nat} {v : Int64} (h : ¬ j = k) : up2L f c k v c j = f c j := by simp [up2L, vp_updL, h]
theorem u2Ln {f : Nat → Nat → Int64} {c k a : Nat} {v : Int64} (h : ¬ a = c) : up2L f c k v a = f a := by simp [up2L, h]
theorem qA4_eq {jv : Nat → Nat → Int32} {m : Nat} {y : MO} (h : RM2 jv m y) (hb : bMO y) {j : Nat} (hj : j < 4) : (if jv 14 m ≤ nI j then (0 : Int32) else jv 15 (4 * m + j)).toInt64 = lI (qA4 y.q j) := by
  have h3 := hb.len
  have h4 := qA4_lt hb j
  rw [h.2.2.1]
  simp only [qLe (a := y.q.length) (b := j) (by omega) (by omega)]
  unfold qA4 at *
  by_cases q : y.q.length ≤ j
  · rw [if_pos q, if_pos q]; rfl
  · rw [if_neg q] at *
    rw [if_neg q, h.2.2.2 j (by omega), q64 (by omega)]; rfl
theorem mpackV_eq {jv : Nat → Nat → Int32} {a : AS} (h0 : RM2 jv 0 (a.mo 0)) (h1 : RM2 jv 1 (a.mo 1)) (hb : bAS a) : ((((((((((((((((((((((((((((((0 * 8) + ((jv 12 0).toInt64)) + 1) * 8) + ((jv 13 0).toInt64)) * 8) + ((jv 14 0).toInt64)) * 4) + ((if jv 14 0 ≤ 0 then (0 : Int32) else jv 15 0).toInt64)) * 4) + ((if jv 14 0 ≤ 1 then (0 : Int32) else jv 15 1).toInt64)) * 4) + ((if jv 14 0 ≤ 2 then (0 : Int32) else jv 15 2).toInt64)) * 4) + ((if jv 14 0 ≤ 3 then (0 : Int32) else jv 15 3).toInt64)) * 8) + ((jv 12 1).toInt64)) + 1) * 8) + ((jv 13 1).toInt64)) * 8) + ((jv 14 1).toInt64)) * 4) + ((if jv 14 1 ≤ 0 then (0 : Int32) else jv 15 4).toInt64)) * 4) + ((if jv 14 1 ≤ 1 then (0 : Int32) else jv 15 5).toInt64)) * 4) + ((if jv 14 1 ≤ 2 then (0 : Int32) else jv 15 6).toInt64)) * 4) + ((if jv 14 1 ≤ 3 then (0 : Int32) else jv 15 7).toInt64) : Int64) = lI (mR a) := by
  have b0 := hb.mo 0 (by decide)
  have b1 := hb.mo 1 (by decide)
  have p0 := b0.ow; have p1 := b0.de; have p2 := b0.len; have p3 := b1.ow; have p4 := b1.de; have p5 := b1.len
  have a00 : (if jv 14 0 ≤ 0 then (0 : Int32) else jv 15 0).toInt64 = _ := qA4_eq h0 b0 (j := 0) (by decide)
  have a01 : (if jv 14 0 ≤ 1 then (0 : Int32) else jv 15 1).toInt64 = _ := qA4_eq h0 b0 (j := 1) (by decide)
  have a02 : (if jv 14 0 ≤ 2 then (0 : Int32) else jv 15 2).toInt64 = _ := qA4_eq h0 b0 (j := 2) (by decide)
  have a03 : (if jv 14 0 ≤ 3 then (0 : Int32) else jv 15 3).toInt64 = _ := qA4_eq h0 b0 (j := 3) (by decide)
  have a10 : (if jv 14 1 ≤ 0 then (0 : Int32) else jv 15 4).toInt64 = _ := qA4_eq h1 b1 (j := 0) (by decide)
  have a11 : (if jv 14 1 ≤ 1 then (0 : Int32) else jv 15 5).toInt64 = _ := qA4_eq h1 b1 (j := 1) (by decide)
  have a12 : (if jv 14 1 ≤ 2 then (0 : Int32) else jv 15 6).toInt64 = _ := qA4_eq h1 b1 (j := 2) (by decide)
  have a13 : (if jv 14 1 ≤ 3 then (0 : Int32) else jv 15 7).toInt64 = _ := qA4_eq h1 b1 (j := 3) (by decide)
  rw [a00, a01, a02, a03, a10, a11, a12, a13, h0.1, h0.2.1, h0.2.2.1, h1.1, h1.2.1, h1.2.2.1, ow1 _ (show (a.mo 0).ow < 2 ^ 31 by omega), ow1 _ (show (a.mo 1).ow < 2 ^ 31 by omega), q64 (show (a.mo 0).de < 2 ^ 31 by omega), q64 (show (a.mo 0).q.length < 2 ^ 31 by omega), q64 (show (a.mo 1).de < 2 ^ 31 by omega), q64 (show (a.mo 1).q.length < 2 ^ 31 by omega)]
  simp only [show ∀ n, Int64.ofNat n = lI n from fun _ => rfl, show (8 : Int64) = lI 8 from rfl, show (4 : Int64) = lI 4 from rfl, show (0 : Int64) = lI 0 from rfl, ← lAdd, ← lMul]
  rfl
theorem pack_eq {jv0 jv : Nat → Nat → Int32} {lv0 lv : Nat → Nat → Int64} {a : AS} (h : RR jv0 lv0 jv lv 4 a) (hb : bAS a) (hp : ∀ t, t < 4 → pR 4 t (a.th t) < 8) {tc az : Nat} (htc : ¬ tc = 8) : (∀ j, j < 5 → n_oPack jv lv tc az tc (az + j) = lI (cR a j)) ∧ (∀ c, ¬ c = tc → n_oPack jv lv tc az c = lv c) ∧ ∀ k, k < az ∨ az + 5 ≤ k → n_oPack jv lv tc az tc k = lv tc k := by
  have T : ∀ (lv' : Nat → Nat → Int64), lv' 8 = lv 8 → ∀ t, t < 4 → r_oTpack jv lv' t = lI (tR t (a.th t)) := fun lv' hl t ht => by
    refine tpack_eq ?_ (hb.th t ht) (hp t ht)
    have := h.th t ht
    unfold RT at *
    rw [hl]; exact this
  have M := mpackV_eq (h.mo 0 (by decide)) (h.mo 1 (by decide)) hb
  have h8 : ∀ (f : Nat → Nat → Int64) k v, up2L f tc k v 8 = f 8 := fun f k v => u2Ln (by omega)
  unfold n_oPack
  rw [M]
  rw [T lv rfl 0 (by decide)]
  rw [T (up2L lv tc (az + 0) (lI (tR 0 (a.th 0)))) (by rw [h8]) 1 (by decide)]
  rw [T (up2L (up2L lv tc (az + 0) (lI (tR 0 (a.th 0)))) tc (az + 1) (lI (tR 1 (a.th 1)))) (by rw [h8, h8]) 2 (by decide)]
  rw [T (up2L (up2L (up2L lv tc (az + 0) (lI (tR 0 (a.th 0)))) tc (az + 1) (lI (tR 1 (a.th 1)))) tc (az + 2) (lI (tR 2 (a.th 2)))) (by rw [h8, h8, h8]) 3 (by decide)]
  refine ⟨fun j hj => ?_, fun c hc => ?_, fun k hk => ?_⟩
  · have : j = 0 ∨ j = 1 ∨ j = 2 ∨ j = 3 ∨ j = 4 := by omega
    rcases this with q | q | q | q | q <;> subst q
    · rw [u2Lk (by omega), u2Lk (by omega), u2Lk (by omega), u2Lk (by omega), u2Ls]; rfl
    · rw [u2Lk (by omega), u2Lk (by omega), u2Lk (by omega), u2Ls]; rfl
    · rw [u2Lk (by omega), u2Lk (by omega), u2Ls]; rfl
    · rw [u2Lk (by omega), u2Ls]; rfl
    · rw [u2Ls]; rfl
  · rw [u2Ln hc, u2Ln hc, u2Ln hc, u2Ln hc, u2Ln hc]
  · rw [u2Lk (by omega), u2Lk (by omega), u2Lk (by omega), u2Lk (by omega), u2Lk (by omega)]
