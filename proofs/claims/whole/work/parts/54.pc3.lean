def cC (a : AS) (t : Nat) : Nat := wN (a.th t) + (if t < 2 then mN (a.mo t) else 0) * 2 ^ 40
def bAS (a : AS) : Prop := (∀ t, t < 4 → bTH (a.th t)) ∧ (∀ m, m < 2 → bMO (a.mo m))
theorem bAS.th {a : AS} (h9 : bAS a) : ∀ t, t < 4 → bTH (a.th t) := h9.1
theorem bAS.mo {a : AS} (h9 : bAS a) : ∀ m, m < 2 → bMO (a.mo m) := h9.2
theorem okAS.b {P : PR} {a : AS} (hP : okPR P) (h : okAS P a) : bAS a := ⟨fun _ ht => h.bth hP ht, fun _ hm => h.bmo hP hm⟩
theorem cC_M {a : AS} (h : bAS a) (t : Nat) : (if t < 2 then mN (a.mo t) else 0) < 2 ^ 17 := by
  split
  · rename_i q; exact mN_lt (h.mo t q)
  · decide
theorem cC_lt {a : AS} (h : bAS a) {t : Nat} (ht : t < 4) : cC a t < 2 ^ 57 := by
  have h1 := wN_lt (h.th t ht)
  have h2 := cC_M h t
  unfold cC
  omega
theorem word_eq {iv0 iv : Nat → Nat → Int32} {mi : Nat} {a : AS} (h : CR iv0 iv mi a) (hb : bAS a) {t sz : Nat} (ht : t < 4) (hsz : t < 2 → sz = (a.mo t).q.length) : r_aWord iv mi t sz = lI (cC a t) := by
  have h1 := wPack_eq (h.th t ht) (hb.th t ht)
  have h2 := wN_lt (hb.th t ht)
  unfold r_aWord cC
  by_cases q : t < 2
  · rw [if_neg (by rw [q2, qLe (by decide) (by omega)]; omega), if_pos q, h1, hsz q, mPack_eq (h.mo t q) (hb.mo t q), show (40 : Int32).toInt64 &&& 63 = lI 40 from rfl, jL (by decide) (by decide), jO, orAdd (by omega)]
  · rw [if_pos (by rw [q2, qLe (by decide) (by omega)]; omega), if_neg q, h1, Nat.zero_mul, Nat.add_zero]
theorem shX_eq {a : AS} (hb : bAS a) {t : Nat} (ht : t < 4) : shX (lI (cC a t)) = nI (if t < 2 then mN (a.mo t) else 0) := by
  have h1 := wN_lt (hb.th t ht)
  have h2 := cC_M hb t
  have h3 := cC_lt hb ht
  unfold shX
  rw [uR (k := 40) (by decide) (by decide) (by omega), j32, show (131071 : Int32) = nI 131071 from rfl, iA, show (131071 : Nat) = 2 ^ 17 - 1 from rfl, modAnd]
  congr 1
  unfold cC; omega
theorem mN_len {y : MO} (h : bMO y) : nI (mN y) >>> ((6 : Int32) &&& 31) &&& 7 = nI y.q.length := by
  have h1 := h.ow
  have h2 := h.de
  have h3 := h.len
  have h4 := mN_lt h
  have h5 := qN_256 h
  rw [show (6 : Int32) &&& 31 = nI 6 from rfl, iR (by decide) (by decide) (by omega), show (7 : Int32) = nI 7 from rfl, iA, show (7 : Nat) = 2 ^ 3 - 1 from rfl, modAnd]
  congr 1
  unfold mN mB; omega
theorem if4 {n : Nat} (h : n ≤ 4) : (if (4 : Int32) < nI n then (4 : Int32) else nI n) = nI n := by
  rw [if_neg (by rw [q4, qLt (by decide) (by omega)]; omega)]
theorem szU_eq {a : AS} (hb : bAS a) {t : Nat} (ht : t < 2) : szU (lI (cC a t)) = (a.mo t).q.length := by
  have h3 := (hb.mo t ht).len
  unfold szU
  rw [shX_eq hb (by omega), if_pos ht, mN_len (hb.mo t ht), if4 h3, qC (by omega)]
theorem mUn_sp {c : Nat} {s : Int32} {iv : Nat → Nat → Int32} : ∀ n, (∀ b, ¬ b = c → mUn c s iv n b = iv b) ∧ ∀ j, j < n → mUn c s iv n c j = (s >>> (((9 : Int32) + (2 * nI j)) &&& 31)) &&& 3
  | 0 => ⟨fun _ _ => rfl, fun j h => absurd h (Nat.not_lt_zero _)⟩
  | n + 1 => by
    obtain ⟨h1, h2⟩ := mUn_sp (c := c) (s := s) (iv := iv) n
    refine ⟨fun b hb => by rw [mUn, u2n hb, h1 b hb], fun j hj => ?_⟩
    rw [mUn, u2s]
    unfold upd
    by_cases q : j = n
    · rw [if_pos q, q]
    · rw [if_neg q]; exact h2 j (by omega)
theorem mUnp_eq {iv : Nat → Nat → Int32} {mi m : Nat} {y : MO} (hb : bMO y) : CM (m_mUnpack iv mi m (lI (mN y)) y.q.length (28 + 2 * mi + m)) (m_mUnpack iv mi m (lI (mN y)) y.q.length (32 + 2 * mi + m)) y ∧ ∀ c, ¬ c = 28 + 2 * mi + m → ¬ c = 32 + 2 * mi + m → m_mUnpack iv mi m (lI (mN y)) y.q.length c = iv c := by
  have h1 := hb.ow
  have h2 := hb.de
  have h3 := hb.len
  have h4 := mN_lt hb
  have h5 := qN_256 hb
  have e1 : (lI (mN y)).toInt32 &&& 131071 = nI (mN y) := by
    rw [j32, show (131071 : Int32) = nI 131071 from rfl, iA, show (131071 : Nat) = 2 ^ 17 - 1 from rfl, modAnd, Nat.mod_eq_of_lt h4]
  unfold m_mUnpack
  rw [e1]
  obtain ⟨g1, g2⟩ := mUn_sp (c := 32 + 2 * mi + m) (s := nI (mN y)) (iv := mU0 iv (28 + 2 * mi + m) (nI (mN y))) y.q.length
  constructor
  · refine ⟨?_, ?_, ?_, fun j hj => ?_⟩
    · rw [g1 _ (by omega)]
      unfold mU0
      simp only [up2, upd, if_true]
      have : nI (mN y) &&& 7 = nI y.ow := by
        rw [show (7 : Int32) = nI 7 from rfl, iA, show (7 : Nat) = 2 ^ 3 - 1 from rfl, modAnd]; congr 1; unfold mN mB; omega
      rw [this]; simp
    · rw [g1 _ (by omega)]
      unfold mU0
      simp only [up2, upd, if_true]
      have : nI (mN y) >>> ((3 : Int32) &&& 31) &&& 7 = nI y.de := by
        rw [show (3 : Int32) &&& 31 = nI 3 from rfl, iR (by decide) (by decide) (by omega), show (7 : Int32) = nI 7 from rfl, iA, show (7 : Nat) = 2 ^ 3 - 1 from rfl, modAnd]; congr 1; unfold mN mB; omega
      rw [this]; simp
    · rw [g1 _ (by omega)]
      unfold mU0
      simp only [up2, upd, if_true]
      rw [mN_len hb, if4 h3]
    · have hs := shk (k := j) (by omega)
      rw [g2 j hj, hs.1, iR hs.2 (by omega) (by omega), show (3 : Int32) = nI 3 from rfl, iA, show (3 : Nat) = 2 ^ 2 - 1 from rfl, modAnd]
      congr 1
      rw [← qN_get y.q j hb.q hj, Nat.pow_add, ← Nat.div_div_eq_div_mul, show mN y / 2 ^ 9 = qN y.q by have := mB_lt hb; unfold mN; omega, Nat.pow_mul]
  · intro c hc hc2
    rw [g1 c hc2]
    unfold mU0
    rw [u2n hc, u2n hc, u2n hc]
theorem unword_eq {iv : Nat → Nat → Int32} {mi t : Nat} {a : AS} (hb : bAS a) (hmi : mi < 2) (ht : t < 4) : CT (m_aUnword iv mi t (lI (cC a t)) (szU (lI (cC a t))) (20 + 4 * mi + t)) (a.th t) ∧ (t < 2 → CM (m_aUnword iv mi t (lI (cC a t)) (szU (lI (cC a t))) (28 + 2 * mi + t)) (m_aUnword iv mi t (lI (cC a t)) (szU (lI (cC a t))) (32 + 2 * mi + t)) (a.mo t)) ∧ ∀ c, ¬ c = 20 + 4 * mi + t → (t < 2 → ¬ c = 28 + 2 * mi + t ∧ ¬ c = 32 + 2 * mi + t) → m_aUnword iv mi t (lI (cC a t)) (szU (lI (cC a t))) c = iv c := by
  have hM := cC_M hb t
  have hw := wN_lt (hb.th t ht)
  have hc57 := cC_lt hb ht
  obtain ⟨u1, u2⟩ := wUnp_eq (iv := iv) (mi := mi) (t := t) (hb.th t ht) (M := if t < 2 then mN (a.mo t) else 0) (by omega)
  rw [show wN (a.th t) + (if t < 2 then mN (a.mo t) else 0) * 2 ^ 40 = cC a t from rfl] at u1 u2
  unfold m_aUnword
  by_cases q : t < 2
  · rw [if_neg (show ¬ (2 : Int32) ≤ nI t by rw [q2, qLe (by decide) (by omega)]; omega), uR (k := 40) (by decide) (by decide) (by omega), szU_eq hb q]
    have e1 : cC a t / 2 ^ 40 = mN (a.mo t) := by unfold cC; rw [if_pos q]; omega
    rw [e1]
    obtain ⟨g1, g2⟩ := mUnp_eq (iv := m_wUnpack iv mi t (lI (cC a t))) (mi := mi) (m := t) (hb.mo t q)
    refine ⟨?_, fun _ => g1, fun c h1 h2 => ?_⟩
    · rw [g2 _ (by omega) (by omega)]; exact u1
    · rw [g2 c (h2 q).1 (h2 q).2]; exact u2 c h1
  · rw [if_pos (show (2 : Int32) ≤ nI t by rw [q2, qLe (by decide) (by omega)]; omega)]
    exact ⟨u1, fun h => absurd h q, fun c h1 _ => u2 c h1⟩
theorem rest_eq {iv : Nat → Nat → Int32} {lv : Nat → Nat → Int64} {k : Nat} {a : AS} (hb : bAS a) (hw : ∀ t, t < 4 → lv 39 (k * 4 + t) = lI (cC a t)) : CR iv (m_sRest iv lv k) 1 a := by
  unfold m_sRest
  rw [hw 0 (by decide), hw 1 (by decide), hw 2 (by decide), hw 3 (by decide)]
  obtain ⟨a0, b0, c0⟩ := unword_eq (iv := iv) (mi := 1) (t := 0) hb (by decide) (by decide)
  generalize hi0 : m_aUnword iv 1 0 (lI (cC a 0)) (szU (lI (cC a 0))) = i0 at *
  obtain ⟨a1, b1, c1⟩ := unword_eq (iv := i0) (mi := 1) (t := 1) hb (by decide) (by decide)
  generalize hi1 : m_aUnword i0 1 1 (lI (cC a 1)) (szU (lI (cC a 1))) = i1 at *
  obtain ⟨a2, b2, c2⟩ := unword_eq (iv := i1) (mi := 1) (t := 2) hb (by decide) (by decide)
  generalize hi2 : m_aUnword i1 1 2 (lI (cC a 2)) (szU (lI (cC a 2))) = i2 at *
  obtain ⟨a3, b3, c3⟩ := unword_eq (iv := i2) (mi := 1) (t := 3) hb (by decide) (by decide)
  generalize hi3 : m_aUnword i2 1 3 (lI (cC a 3)) (szU (lI (cC a 3))) = i3 at *
  refine ⟨fun t ht => ?_, fun m hm => ?_, fun c h1 h2 h3 => ?_⟩
  · have : t = 0 ∨ t = 1 ∨ t = 2 ∨ t = 3 := by omega
    rcases this with q | q | q | q <;> subst q
    · rw [c3 _ (by decide) (by decide), c2 _ (by decide) (by decide), c1 _ (by decide) (by decide)]; exact a0
    · rw [c3 _ (by decide) (by decide), c2 _ (by decide) (by decide)]; exact a1
    · rw [c3 _ (by decide) (by decide)]; exact a2
    · exact a3
  · have : m = 0 ∨ m = 1 := by omega
    rcases this with q | q <;> subst q
    · rw [c3 _ (by decide) (by decide), c2 _ (by decide) (by decide), c1 _ (by decide) (by decide), c3 _ (by decide) (by decide), c2 _ (by decide) (by decide), c1 _ (by decide) (by decide)]; exact b0 (by decide)
    · rw [c3 _ (by decide) (by decide), c2 _ (by decide) (by decide), c3 _ (by decide) (by decide), c2 _ (by decide) (by decide)]; exact b1 (by decide)
  · rw [c3 c (by omega) (by omega), c2 c (by omega) (by omega), c1 c (by omega) (by omega), c0 c (by omega) (by omega)]
def eqv (a b : AS) : Prop := (∀ t, t < 4 → a.th t = b.th t) ∧ ∀ m, m < 2 → a.mo m = b.mo m
theorem pow_r {n n' r r' : Nat} (h : 12 ^ n + r = 12 ^ n' + r') (hr : r < 12 ^ n) (hr' : r' < 12 ^ n') : n = n' ∧ r = r' := by
  have key : ∀ {a b s s' : Nat}, 12 ^ a + s = 12 ^ b + s' → s < 12 ^ a → ¬ a < b := fun {a b s s'} e1 e2 hlt => by
    have : 12 ^ (a + 1) ≤ 12 ^ b := Nat.pow_le_pow_right (by decide) hlt
    rw [Nat.pow_succ] at this
    omega
  have h1 := key h hr
  have h2 := key h.symm hr'
  have h3 : n = n' := by omega
  subst h3
  exact ⟨rfl, by omega⟩
theorem CT.inj {g : Nat → Int32} {x y : TH} (h : CT g x) (h' : CT g y) (hx : bTH x) (hy : bTH y) : x = y := by
  obtain ⟨a0, a1, a2, a3, a4, a5, a7⟩ := h
  obtain ⟨b0, b1, b2, b3, b4, b5, b7⟩ := h'
  have hx1 := hx.st; have hx2 := hx.pl; have hx3 := hx.kp; have hx4 := hx.fi; have hx5 := hx.fp; have hx6 := hx.fs; have hx7 := reN_lt hx
  have hy1 := hy.st; have hy2 := hy.pl; have hy3 := hy.kp; have hy4 := hy.fi; have hy5 := hy.fp; have hy6 := hy.fs; have hy7 := reN_lt hy
  have e7 : reN x = reN y := (qE (by omega) (by omega)).1 (a7.symm.trans b7)
  have e8 := pow_r e7 hx.r hy.r
  refine TH.ext ?_ ?_ ?_ ?_ ?_ ?_ e8.1 e8.2
  · exact (qE (by omega) (by omega)).1 (a0.symm.trans b0)
  · exact (qE (by omega) (by omega)).1 (a1.symm.trans b1)
  · exact (qE (by omega) (by omega)).1 (a2.symm.trans b2)
  · exact (qE (by omega) (by omega)).1 (a3.symm.trans b3)
  · exact (qE (by omega) (by omega)).1 (a4.symm.trans b4)
  · exact (qE (by omega) (by omega)).1 (a5.symm.trans b5)
theorem list_getD {l l' : List Nat} (h : l.length = l'.length) (hj : ∀ j, j < l.length → l.getD j 0 = l'.getD j 0) : l = l' := by
  apply List.ext_getElem h
  intro i h1 h2
  have := hj i h1
  rwa [List.getD_eq_getElem?_getD, List.getD_eq_getElem?_getD, List.getElem?_eq_getElem h1, List.getElem?_eq_getElem h2] at this
theorem CM.inj {g s : Nat → Int32} {x y : MO} (h : CM g s x) (h' : CM g s y) (hx : bMO x) (hy : bMO y) : x = y := by
  obtain ⟨a0, a1, a2, a3⟩ := h
  obtain ⟨b0, b1, b2, b3⟩ := h'
  have hx1 := hx.ow; have hx2 := hx.de; have hx3 := hx.len
  have hy1 := hy.ow; have hy2 := hy.de; have hy3 := hy.len
  have e0 : nI x.ow = nI y.ow := by
    have : nI x.ow - 1 + 1 = nI y.ow - 1 + 1 := by rw [← a0, ← b0]
    rwa [Int32.sub_add_cancel, Int32.sub_add_cancel] at this
  have el := (qE (by omega) (by omega)).1 (a2.symm.trans b2)
  refine MO.ext ((qE (by omega) (by omega)).1 e0) ((qE (by omega) (by omega)).1 (a1.symm.trans b1)) (list_getD el (fun j hj => ?_))
  have h1 := hx.q _ (getD_mem hj)
  have h2 := hy.q _ (getD_mem (el ▸ hj))
  exact (qE (by omega) (by omega)).1 ((a3 j hj).symm.trans (b3 j (el ▸ hj)))
theorem cC_inj {a b : AS} (ha : bAS a) (hb : bAS b) (h : ∀ t, t < 4 → cC a t = cC b t) : eqv a b := by
  have h1 := rest_eq (iv := fun _ _ => 0) (lv := fun _ j => lI (cC a j)) (k := 0) ha (fun t _ => by rw [Nat.zero_mul, Nat.zero_add])
  have h2 := rest_eq (iv := fun _ _ => 0) (lv := fun _ j => lI (cC a j)) (k := 0) hb (fun t ht => by rw [Nat.zero_mul, Nat.zero_add, h t ht])
  exact ⟨fun t ht => (h1.th t ht).inj (h2.th t ht) (ha.th t ht) (hb.th t ht), fun m hm => (h1.mo m hm).inj (h2.mo m hm) (ha.mo m hm) (hb.mo m hm)⟩
theorem cC_eqv {a b : AS} (h : eqv a b) {t : Nat} (ht : t < 4) : cC a t = cC b t := by
  unfold cC
  rw [h.1 t ht]
  by_cases q : t < 2
  · rw [if_pos q, if_pos q, h.2 t q]
  · rw [if_neg q, if_neg q]
