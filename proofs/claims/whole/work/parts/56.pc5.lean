theorem and8 (V m : Nat) (hm : m < 8) : V &&& m = (V % 8) &&& m := by
  have h1 : (V &&& m) % 2 ^ 3 = (V % 2 ^ 3) &&& (m % 2 ^ 3) := Nat.and_mod_two_pow
  have h2 : V &&& m ≤ m := Nat.and_le_right
  rw [Nat.mod_eq_of_lt (show V &&& m < 2 ^ 3 by omega), Nat.mod_eq_of_lt (show m < 2 ^ 3 by omega)] at h1
  exact h1
theorem l7 (V : Nat) : (lI V).toInt32 &&& 7 = nI (V % 8) := by
  rw [j32, show (7 : Int32) = nI 7 from rfl, iA, show (7 : Nat) = 2 ^ 3 - 1 from rfl, modAnd]
theorem l3 (V : Nat) : (lI V).toInt32 &&& 3 = nI (V % 4) := by
  rw [j32, show (3 : Int32) = nI 3 from rfl, iA, show (3 : Nat) = 2 ^ 2 - 1 from rfl, modAnd]
theorem tunp_eq {jv : Nat → Nat → Int32} {lv : Nat → Nat → Int64} {t : Nat} {x : TH} (hb : bTH x) (hp : pR 4 t x < 8) : RT (m_oTunp jv t (lI (tR t x))) (n_oTunp jv lv t (lI (tR t x))) 4 t x := by
  have h1 := hb.st; have h2 := hb.kp; have h3 := hb.n; have h4 := flN_lt hb; have h5 := r_lt hb; have h6 := tR_lt hb hp
  unfold m_oTunp n_oTunp
  rw [show (3 : Int32).toInt64 &&& 63 = lI 3 from rfl, show (6 : Int32).toInt64 &&& 63 = lI 6 from rfl, show (9 : Int32).toInt64 &&& 63 = lI 9 from rfl, show (12 : Int32).toInt64 &&& 63 = lI 12 from rfl, show (15 : Int32).toInt64 &&& 63 = lI 15 from rfl]
  rw [jR (k := 3) (by decide) (by decide) (by omega), jR (k := 6) (by decide) (by decide) (by omega), jR (k := 9) (by decide) (by decide) (by omega), jR (k := 12) (by decide) (by decide) (by omega), jR (k := 15) (by decide) (by decide) (by omega)]
  rw [l7, l7, l7, l7]
  have e3 : tR t x / 2 ^ 3 % 8 = x.kp := by unfold tR; omega
  have e6 : tR t x / 2 ^ 6 % 8 = x.st := by unfold tR; omega
  have e9 : tR t x / 2 ^ 9 % 8 = pR 4 t x := by unfold tR; omega
  have e12 : tR t x / 2 ^ 12 % 8 = x.n := by unfold tR; omega
  have e15 : tR t x / 2 ^ 15 = x.r := by unfold tR; omega
  have e0 : tR t x % 8 = flN x := by unfold tR; omega
  rw [e3, e6, e9, e12, e15]
  have b1 : (if lI (tR t x) &&& 1 = 1 then (1 : Int32) else 0) = nI x.fi ∧ (if lI (tR t x) &&& 2 = 2 then (1 : Int32) else 0) = nI x.fp ∧ (if lI (tR t x) &&& 4 = 4 then (1 : Int32) else 0) = nI x.fs := by
    rw [show (1 : Int64) = lI 1 from rfl, show (2 : Int64) = lI 2 from rfl, show (4 : Int64) = lI 4 from rfl, jA, jA, jA, and8 _ 1 (by decide), and8 _ 2 (by decide), and8 _ 4 (by decide), e0]
    have h1 := hb.fi
    have h2 := hb.fp
    have h3 := hb.fs
    unfold flN
    generalize x.fi = a at *
    generalize x.fp = b at *
    generalize x.fs = c at *
    have : a = 0 ∨ a = 1 := by omega
    have : b = 0 ∨ b = 1 := by omega
    have : c = 0 ∨ c = 1 := by omega
    rcases ‹a = 0 ∨ a = 1› with q | q <;> rcases ‹b = 0 ∨ b = 1› with q2 | q2 <;> rcases ‹c = 0 ∨ c = 1› with q3 | q3 <;> subst q q2 q3 <;> decide
  rw [b1.1, b1.2.1, b1.2.2]
  unfold RT
  simp [up2, upd, up2L, vp_updL, lI]
theorem tunp_u {jv : Nat → Nat → Int32} {t u c : Nat} {w : Int64} (h : ¬ u = t) : m_oTunp jv t w c u = jv c u := by
  unfold m_oTunp
  have : ∀ (f : Nat → Nat → Int32) d v, up2 f d t v c u = f c u := fun f d v => by
    unfold up2
    split
    · rename_i e; subst e; unfold upd; rw [if_neg h]
    · rfl
  rw [this, this, this, this, this, this, this]
theorem tunp_c {jv : Nat → Nat → Int32} {t c : Nat} {w : Int64} (h : c < 4 ∨ 12 ≤ c) : m_oTunp jv t w c = jv c := by
  unfold m_oTunp
  rw [u2n (by omega), u2n (by omega), u2n (by omega), u2n (by omega), u2n (by omega), u2n (by omega), u2n (by omega)]
theorem tunL_u {jv : Nat → Nat → Int32} {lv : Nat → Nat → Int64} {t u : Nat} {w : Int64} (h : ¬ u = t) : n_oTunp jv lv t w 8 u = lv 8 u := by unfold n_oTunp; rw [u2Lk h]
theorem tunL_c {jv : Nat → Nat → Int32} {lv : Nat → Nat → Int64} {t c : Nat} {w : Int64} (h : ¬ c = 8) : n_oTunp jv lv t w c = lv c := by unfold n_oTunp; rw [u2Ln h]
theorem RT.of {jv jv' : Nat → Nat → Int32} {lv lv' : Nat → Nat → Int64} {t : Nat} {x : TH} (h : RT jv lv 4 t x) (h1 : ∀ c, 4 ≤ c → c < 12 → jv' c t = jv c t) (h2 : lv' 8 t = lv 8 t) : RT jv' lv' 4 t x := by
  unfold RT at *
  rw [h1 5 (by decide) (by decide), h1 4 (by decide) (by decide), h1 6 (by decide) (by decide), h1 7 (by decide) (by decide), h1 9 (by decide) (by decide), h1 10 (by decide) (by decide), h1 11 (by decide) (by decide), h2]
  exact h
theorem qA4_get {y : MO} {j : Nat} (h : j < y.q.length) : qA4 y.q j = y.q.getD j 0 := by unfold qA4; rw [if_neg (by omega)]
set_option maxHeartbeats 4000000 in
set_option maxRecDepth 10000 in
theorem unp_eq {jv : Nat → Nat → Int32} {lv : Nat → Nat → Int64} {a : AS} (hb : bAS a) (hp : ∀ t, t < 4 → pR 4 t (a.th t) < 8) {tc az : Nat} (htc : ¬ tc = 8) (hw : ∀ j, j < 5 → lv tc (az + j) = lI (cR a j)) : RR jv lv (m_oUnp jv lv tc az) (n_oUnp jv lv tc az) 4 a := by
  have hL : ∀ i (l : Nat → Nat → Int64) t x j, n_oTunp i l t x tc j = l tc j := fun i l t x j => by rw [tunL_c htc]
  have w0 := hw 0 (by decide)
  have w1 := hw 1 (by decide)
  have w2 := hw 2 (by decide)
  have w3 := hw 3 (by decide)
  have w4 := hw 4 (by decide)
  have w0 : lv tc (az + 0) = lI (tR 0 (a.th 0)) := w0
  have w1 : lv tc (az + 1) = lI (tR 1 (a.th 1)) := w1
  have w2 : lv tc (az + 2) = lI (tR 2 (a.th 2)) := w2
  have w3 : lv tc (az + 3) = lI (tR 3 (a.th 3)) := w3
  have w4 : lv tc (az + 4) = lI (mR a) := w4
  unfold m_oUnp n_oUnp
  simp only [hL, w0, w1, w2, w3, w4]
  have p0 := tunp_eq (jv := jv) (lv := lv) (hb.th 0 (by decide)) (hp 0 (by decide))
  generalize hj0 : m_oTunp jv 0 (lI (tR 0 (a.th 0))) = j0 at *
  generalize hl0 : n_oTunp jv lv 0 (lI (tR 0 (a.th 0))) = l0 at *
  have p1 := tunp_eq (jv := j0) (lv := l0) (hb.th 1 (by decide)) (hp 1 (by decide))
  generalize hj1 : m_oTunp j0 1 (lI (tR 1 (a.th 1))) = j1 at *
  generalize hl1 : n_oTunp j0 l0 1 (lI (tR 1 (a.th 1))) = l1 at *
  have p2 := tunp_eq (jv := j1) (lv := l1) (hb.th 2 (by decide)) (hp 2 (by decide))
  generalize hj2 : m_oTunp j1 2 (lI (tR 2 (a.th 2))) = j2 at *
  generalize hl2 : n_oTunp j1 l1 2 (lI (tR 2 (a.th 2))) = l2 at *
  have p3 := tunp_eq (jv := j2) (lv := l2) (hb.th 3 (by decide)) (hp 3 (by decide))
  generalize hj3 : m_oTunp j2 3 (lI (tR 3 (a.th 3))) = j3 at *
  generalize hl3 : n_oTunp j2 l2 3 (lI (tR 3 (a.th 3))) = l3' at *
  have P0 : RT j3 l3' 4 0 (a.th 0) := p0.of (fun c _ _ => by rw [← hj3, tunp_u (by decide), ← hj2, tunp_u (by decide), ← hj1, tunp_u (by decide)]) (by rw [← hl3, tunL_u (by decide), ← hl2, tunL_u (by decide), ← hl1, tunL_u (by decide)])
  have P1 : RT j3 l3' 4 1 (a.th 1) := p1.of (fun c _ _ => by rw [← hj3, tunp_u (by decide), ← hj2, tunp_u (by decide)]) (by rw [← hl3, tunL_u (by decide), ← hl2, tunL_u (by decide)])
  have P2 : RT j3 l3' 4 2 (a.th 2) := p2.of (fun c _ _ => by rw [← hj3, tunp_u (by decide)]) (by rw [← hl3, tunL_u (by decide)])
  have F : ∀ c, c < 4 ∨ 16 ≤ c → j3 c = jv c := fun c hc => by rw [← hj3, tunp_c (by omega), ← hj2, tunp_c (by omega), ← hj1, tunp_c (by omega), ← hj0, tunp_c (by omega)]
  have G : ∀ c, ¬ c = 8 → l3' c = lv c := fun c hc => by rw [← hl3, tunL_c hc, ← hl2, tunL_c hc, ← hl1, tunL_c hc, ← hl0, tunL_c hc]
  clear hj0 hj1 hj2 hj3 hl0 hl1 hl2 hl3 p0 p1 p2 w0 w1 w2 w3 w4 hw hL
  have b0 := hb.mo 0 (by decide)
  have b1 := hb.mo 1 (by decide)
  have hV := mR_lt hb
  have a00 := qA4_lt b0 0; have a01 := qA4_lt b0 1; have a02 := qA4_lt b0 2; have a03 := qA4_lt b0 3
  have a10 := qA4_lt b1 0; have a11 := qA4_lt b1 1; have a12 := qA4_lt b1 2; have a13 := qA4_lt b1 3
  have c0 := b0.ow; have c1 := b0.de; have c2 := b0.len; have c3 := b1.ow; have c4 := b1.de; have c5 := b1.len
  rw [show (2 : Int32).toInt64 &&& 63 = lI 2 from rfl, show (3 : Int32).toInt64 &&& 63 = lI 3 from rfl, show (6 : Int32).toInt64 &&& 63 = lI 6 from rfl, show (9 : Int32).toInt64 &&& 63 = lI 9 from rfl]
  have S2 : ∀ V, V < 2 ^ 34 → lI V >>> lI 2 = lI (V / 4) := fun V h => jR (k := 2) (by decide) (by decide) (by omega)
  have S3 : ∀ V, V < 2 ^ 34 → lI V >>> lI 3 = lI (V / 8) := fun V h => jR (k := 3) (by decide) (by decide) (by omega)
  have S6 : ∀ V, V < 2 ^ 34 → lI V >>> lI 6 = lI (V / 64) := fun V h => jR (k := 6) (by decide) (by decide) (by omega)
  have S9 : ∀ V, V < 2 ^ 34 → lI V >>> lI 9 = lI (V / 512) := fun V h => jR (k := 9) (by decide) (by decide) (by omega)
  have D : ∀ V d, V < 2 ^ 34 → V / d < 2 ^ 34 := fun V d h => Nat.lt_of_le_of_lt (Nat.div_le_self _ _) h
  have v1 := D _ 4 hV
  have v2 := D _ 4 v1
  have v3 := D _ 4 v2
  have v4 := D _ 4 v3
  have v5 := D _ 512 v4
  have v6 := D _ 4 v5
  have v7 := D _ 4 v6
  have v8 := D _ 4 v7
  have v9 := D _ 4 v8
  rw [S2 _ hV, S2 _ v1, S2 _ v2, S2 _ v3, S3 _ v4, S6 _ v4, S9 _ v4, S2 _ v5, S2 _ v6, S2 _ v7, S2 _ v8, S3 _ v9, S6 _ v9]
  simp only [l7, l3]
  have E1 : mR a = mR1 (mR1 0 (a.mo 0)) (a.mo 1) := rfl
  generalize hz : mR1 0 (a.mo 0) = z at *
  unfold mR1 at E1 hz
  have r17 : mR a % 4 = qA4 (a.mo 1).q 3 := by omega
  have r16 : mR a / 4 % 4 = qA4 (a.mo 1).q 2 := by omega
  have r15 : mR a / 4 / 4 % 4 = qA4 (a.mo 1).q 1 := by omega
  have r14 : mR a / 4 / 4 / 4 % 4 = qA4 (a.mo 1).q 0 := by omega
  have r13 : mR a / 4 / 4 / 4 / 4 % 8 = (a.mo 1).q.length := by omega
  have r12 : mR a / 4 / 4 / 4 / 4 / 8 % 8 = (a.mo 1).de := by omega
  have r11 : mR a / 4 / 4 / 4 / 4 / 64 % 8 = (a.mo 1).ow := by omega
  have rz : mR a / 4 / 4 / 4 / 4 / 512 = z := by omega
  rw [r17, r16, r15, r14, r13, r12, r11, rz]
  have s3 : z % 4 = qA4 (a.mo 0).q 3 := by omega
  have s2 : z / 4 % 4 = qA4 (a.mo 0).q 2 := by omega
  have s1 : z / 4 / 4 % 4 = qA4 (a.mo 0).q 1 := by omega
  have s0 : z / 4 / 4 / 4 % 4 = qA4 (a.mo 0).q 0 := by omega
  have sl : z / 4 / 4 / 4 / 4 % 8 = (a.mo 0).q.length := by omega
  have sd : z / 4 / 4 / 4 / 4 / 8 % 8 = (a.mo 0).de := by omega
  have so : z / 4 / 4 / 4 / 4 / 64 % 8 = (a.mo 0).ow := by omega
  rw [s3, s2, s1, s0, sl, sd, so]
  refine ⟨fun t ht => ?_, fun m hm => ?_, fun c hc => ?_, G⟩
  · have K : ∀ (f : Nat → Nat → Int32) d k v c, 4 ≤ c → c < 12 → 12 ≤ d → up2 f d k v c = f c := fun f d k v c h1 h2 h3 => u2n (by omega)
    have : t = 0 ∨ t = 1 ∨ t = 2 ∨ t = 3 := by omega
    have key : RT j3 l3' 4 t (a.th t) := by rcases this with q | q | q | q <;> subst q <;> assumption
    refine key.of (fun c h1 h2 => ?_) rfl
    rw [K _ _ _ _ _ h1 h2 (by decide), K _ _ _ _ _ h1 h2 (by decide), K _ _ _ _ _ h1 h2 (by decide), K _ _ _ _ _ h1 h2 (by decide), K _ _ _ _ _ h1 h2 (by decide), K _ _ _ _ _ h1 h2 (by decide), K _ _ _ _ _ h1 h2 (by decide), K _ _ _ _ _ h1 h2 (by decide), K _ _ _ _ _ h1 h2 (by decide), K _ _ _ _ _ h1 h2 (by decide), K _ _ _ _ _ h1 h2 (by decide), K _ _ _ _ _ h1 h2 (by decide), K _ _ _ _ _ h1 h2 (by decide), K _ _ _ _ _ h1 h2 (by decide)]
  · have : m = 0 ∨ m = 1 := by omega
    rcases this with q | q <;> subst q
    · refine ⟨by simp [up2, upd], by simp [up2, upd], by simp [up2, upd], fun j hj => ?_⟩
      rw [← qA4_get hj]
      have : j = 0 ∨ j = 1 ∨ j = 2 ∨ j = 3 := by omega
      rcases this with q | q | q | q <;> subst q <;> simp [up2, upd]
    · refine ⟨by simp [up2, upd], by simp [up2, upd], by simp [up2, upd], fun j hj => ?_⟩
      rw [← qA4_get hj]
      have : j = 0 ∨ j = 1 ∨ j = 2 ∨ j = 3 := by omega
      rcases this with q | q | q | q <;> subst q <;> simp [up2, upd]
  · rw [u2n (by omega), u2n (by omega), u2n (by omega), u2n (by omega), u2n (by omega), u2n (by omega), u2n (by omega), u2n (by omega), u2n (by omega), u2n (by omega), u2n (by omega), u2n (by omega), u2n (by omega), u2n (by omega)]
    exact F c hc
theorem RT.inj {jv : Nat → Nat → Int32} {lv : Nat → Nat → Int64} {t : Nat} {x y : TH} (h : RT jv lv 4 t x) (h' : RT jv lv 4 t y) (hx : bTH x) (hy : bTH y) (px : pR 4 t x < 8) (py : pR 4 t y < 8) : x = y := by
  obtain ⟨a5, a4, a6, a7, a8, a9, a10, a11⟩ := h
  obtain ⟨b5, b4, b6, b7, b8, b9, b10, b11⟩ := h'
  have hx1 := hx.st; have hx3 := hx.kp; have hx4 := hx.fi; have hx5 := hx.fp; have hx6 := hx.fs; have hx7 := r_lt hx; have hx8 := hx.n
  have hy1 := hy.st; have hy3 := hy.kp; have hy4 := hy.fi; have hy5 := hy.fp; have hy6 := hy.fs; have hy7 := r_lt hy; have hy8 := hy.n
  have es := (qE (show x.st < 2 ^ 31 by omega) (show y.st < 2 ^ 31 by omega)).1 (a5.symm.trans b5)
  have ep := (qE (show pR 4 t x < 2 ^ 31 by omega) (show pR 4 t y < 2 ^ 31 by omega)).1 (a4.symm.trans b4)
  refine TH.ext es ?_ ?_ ?_ ?_ ?_ ?_ ?_
  · unfold pR at ep; rw [es] at ep; omega
  · exact (qE (by omega) (by omega)).1 (a6.symm.trans b6)
  · exact (qE (by omega) (by omega)).1 (a9.symm.trans b9)
  · exact (qE (by omega) (by omega)).1 (a10.symm.trans b10)
  · exact (qE (by omega) (by omega)).1 (a11.symm.trans b11)
  · exact (qE (by omega) (by omega)).1 (a7.symm.trans b7)
  · exact (lE (by omega) (by omega)).1 (a8.symm.trans b8)
theorem RM2.inj {jv : Nat → Nat → Int32} {m : Nat} {x y : MO} (h : RM2 jv m x) (h' : RM2 jv m y) (hx : bMO x) (hy : bMO y) : x = y := by
  obtain ⟨e0, e1, e2, e3⟩ := h
  obtain ⟨f0, f1, f2, f3⟩ := h'
  refine CM.inj (g := fun k => if k = 0 then jv 12 m else if k = 1 then jv 13 m else jv 14 m) (s := fun j => jv 15 (4 * m + j)) ⟨?_, ?_, ?_, e3⟩ ⟨?_, ?_, ?_, f3⟩ hx hy
  · exact e0
  · exact e1
  · exact e2
  · exact f0
  · exact f1
  · exact f2
theorem cR_inj {a b : AS} (ha : bAS a) (hb : bAS b) (pa : ∀ t, t < 4 → pR 4 t (a.th t) < 8) (pb : ∀ t, t < 4 → pR 4 t (b.th t) < 8) (h : ∀ j, j < 5 → cR a j = cR b j) : eqv a b := by
  have h1 := unp_eq (jv := fun _ _ => 0) (lv := fun _ j => lI (cR a j)) (tc := 16) (az := 0) ha pa (by decide) (fun j _ => by rw [Nat.zero_add])
  have h2 := unp_eq (jv := fun _ _ => 0) (lv := fun _ j => lI (cR a j)) (tc := 16) (az := 0) hb pb (by decide) (fun j hj => by rw [Nat.zero_add, h j hj])
  generalize m_oUnp (fun _ _ => 0) (fun _ j => lI (cR a j)) 16 0 = J at h1 h2
  generalize n_oUnp (fun _ _ => 0) (fun _ j => lI (cR a j)) 16 0 = L at h1 h2
  exact ⟨fun t ht => (h1.th t ht).inj (h2.th t ht) (ha.th t ht) (hb.th t ht) (pa t ht) (pb t ht), fun m hm => (h1.mo m hm).inj (h2.mo m hm) (ha.mo m hm) (hb.mo m hm)⟩
theorem cR_eqv {a b : AS} (h : eqv a b) {j : Nat} : cR a j = cR b j := by
  unfold cR
  by_cases q : j < 4
  · rw [if_pos q, if_pos q, h.1 j q]
  · rw [if_neg q, if_neg q]; unfold mR; rw [h.2 0 (by decide), h.2 1 (by decide)]
