section
variable {P : PR} {a : AS} {s : SS} {x : KM2} {y : RM}
theorem LJ.act (h : LJ P a s x y) (tt v o : Int32) : ∃ t n : Nat, (¬ r_xIsT x.2.1 tt = 0 → t < 4 ∧ tt = nI t) ∧ (r_oOut y.1 tt 4 = 0 → t < 4 ∧ tt = nI t) ∧ (t < 4 → x.2.1 (2 + t) 2 = nI n) ∧ n ≤ 6 ∧ (t < 4 → y.1 3 t = nI n ∧ n ≤ 6) ∧ r_xAct x.2.1 tt t v o n = r_oAct y.1 y.2 tt t v o n ∧ ∃ P' a' s', LJ P' a' s' (x.1, m_xAct x.2.1 tt t v o n, x.2.2) (m_oAct y.1 tt t v o n, n_oAct y.1 y.2 tt t v o n) := by
  have eR : ∀ t n, r_oAct y.1 y.2 tt t v o n = if r_oOut y.1 tt 4 = 0 then selO y.1 v o (if nI n = 6 then (-2 : Int32) else nI (n + 1)) (-1) else -1 := fun t n => rfl
  have eM : ∀ t n, m_oAct y.1 tt t v o n = if r_oOut y.1 tt 4 = 0 then selO y.1 v o (if nI n = 6 then y.1 else (m_oForget (m_oReset (up2 (up2 (up2 y.1 1 ((6 * t) + n) v) 2 ((6 * t) + n) o) 3 t (nI (n + 1)))) )) y.1 else y.1 := fun t n => rfl
  have eN : ∀ t n, n_oAct y.1 y.2 tt t v o n = if r_oOut y.1 tt 4 = 0 then selO y.1 v o (if nI n = 6 then y.2 else (n_oReset (up2 (up2 (up2 y.1 1 ((6 * t) + n) v) 2 ((6 * t) + n) o) 3 t (nI (n + 1))) y.2)) y.2 else y.2 := fun t n => rfl
  rcases vcase tt (n := 4) (by decide) with ⟨t, ht, rfl⟩ | hn
  · have e1 := isT_y (iv := x.2.1) ht
    have e2 : r_oOut y.1 (nI t) 4 = 0 := out_y (n := 4) ht (by decide)
    have hl6 := h.pr.len t ht
    refine ⟨t, P.len t, fun _ => ⟨ht, rfl⟩, fun _ => ⟨ht, rfl⟩, fun _ => h.cp.len t ht, hl6, fun _ => ⟨h.sr.rp.len t ht, hl6⟩, ?_⟩
    rw [eR, eM, eN, if_pos e2, if_pos e2, if_pos e2]
    unfold r_xAct m_xAct
    rw [if_neg (show ¬ r_xIsT x.2.1 (nI t) = 0 by rw [e1]; decide), if_neg (show ¬ r_xIsT x.2.1 (nI t) = 0 by rw [e1]; decide)]
    rcases vcase v (n := 13) (by decide) with ⟨c, hc, rfl⟩ | hn2
    · rcases vo_dec c o with hv | hv
      · have a1 := isA_y (iv := x.2.1) hc hv
        rw [if_neg (show ¬ r_xIsA x.2.1 (nI c) o = 0 by rw [a1]; decide), if_neg (show ¬ r_xIsA x.2.1 (nI c) o = 0 by rw [a1]; decide), selO_y hc hv, selO_y hc hv, selO_y hc hv]
        have e6 : (nI (P.len t) < 6) = (P.len t < 6) := propext (qLt (b := 6) (by omega) (by decide))
        have e66 : (nI (P.len t) = 6) = (P.len t = 6) := nlit (n := 6) (by omega) (by decide)
        simp only [e6, e66]
        by_cases q : P.len t < 6
        · rw [if_pos q, if_pos q, if_neg (show ¬ P.len t = 6 by omega), if_neg (show ¬ P.len t = 6 by omega), if_neg (show ¬ P.len t = 6 by omega)]
          have hP' := P1_ok h.pr rfl q hc hv
          have hC1 := P1_C h.cp ht rfl q hv
          have hR1 := P1_R h.pr h.sr.rp ht rfl q hv
          generalize hPP : P1 P t (P.len t) c o.toNatClampNeg = P' at *
          have hlen' : P'.len t = P.len t + 1 := by rw [← hPP]; show (if t = t then _ else _) = _; rw [if_pos rfl]
          have G : ∀ c', ¬ (2 ≤ c' ∧ c' < 14) → m_pAdd x.2.1 t (nI c) o (P.len t) c' = x.2.1 c' := fun c' hc' => by
            unfold m_pAdd
            split
            · rfl
            · rw [u2n (by omega), u2n (by omega), u2n (by omega)]
          generalize hi1 : m_pAdd x.2.1 t (nI c) o (P.len t) = i1 at *
          obtain ⟨f1, f2, f3, _⟩ := forget_sp i1
          have hC2 : CP (m_hForget i1) P' := ⟨fun t ht => by rw [f1 _ (by omega) (by omega)]; exact hC1.len t ht, fun t p ht hp => by rw [f1 _ (by omega) (by omega)]; exact hC1.act t p ht hp, fun t p ht hp hh => by rw [f1 _ (by omega) (by omega)]; exact hC1.opd t p ht hp hh, fun m hm => by rw [f1 _ (by omega) (by omega)]; exact hC1.loose m hm⟩
          have hB := aBegin_eq (mi := 0) hP' hC2 (by decide)
          generalize hi2 : m_hForget i1 = i2 at *
          have X : ∀ c, ¬ c = 0 → ¬ (20 ≤ c ∧ c < 24) → ¬ (28 ≤ c ∧ c < 30) → ¬ (32 ≤ c ∧ c < 34) → m_xAnew i2 c = i2 c := fun c c1 c2 c3 c4 => by
            unfold m_xAnew; rw [u2n c1, hB.fr c (by omega) (by omega) (by omega)]
          have hC4 : CP (m_xAnew i2) P' := ⟨fun t ht => by rw [X _ (by omega) (by omega) (by omega) (by omega)]; exact hC2.len t ht, fun t p ht hp => by rw [X _ (by omega) (by omega) (by omega) (by omega)]; exact hC2.act t p ht hp, fun t p ht hp hh => by rw [X _ (by omega) (by omega) (by omega) (by omega)]; exact hC2.opd t p ht hp hh, fun m hm => by rw [X _ (by omega) (by omega) (by omega) (by omega)]; exact hC2.loose m hm⟩
          have X36 : m_xAnew i2 36 = i2 36 := X 36 (by decide) (by decide) (by decide) (by decide)
          have X37 : m_xAnew i2 37 = i2 37 := X 37 (by decide) (by decide) (by decide) (by decide)
          refine ⟨by rw [hC4.len t ht, hlen'], P', aBeg P', zSS (fun _ => aBeg P') (fun _ => 0), ?_⟩
          obtain ⟨r1, r2, r3⟩ := reset_eq (lv := y.2) hP' hR1
          generalize hj1 : up2 (up2 (up2 y.1 1 (6 * t + P.len t) (nI c)) 2 (6 * t + P.len t) o) 3 t (nI (P.len t + 1)) = j1 at *
          have hRR : RP (m_oReset j1) P' := r1.rp (RF1 hR1)
          obtain ⟨z1, _⟩ := SRr.forget (x := (m_oReset j1, n_oReset j1 y.2)) (P := P') (σ := fun _ => aBeg P') (f := fun _ => 0) hRR
          refine ⟨hP', hC4, hB.up0, okAS.beg, r2, ?_, ⟨h.cap.e, h.cap.l39, h.cap.o⟩, ⟨?_, ?_, ?_, fun u hu => ?_, ?_, fun j hj => absurd hj (Nat.not_lt_zero _), h.cap.o, Nat.zero_le _⟩, ?_, z1, Nat.zero_le _, Or.inl ⟨?_, _, _, rfl⟩⟩
          · show m_xAnew i2 0 3 = m_oForget (m_oReset j1) 0 17
            rw [(oForget_sp (m_oReset j1)).2.1 17 (by decide), r1.fr 0 (by decide), u2v]
            unfold m_xAnew; rw [u2v]
          · show m_xAnew i2 36 4 = nI 0
            rw [X36]; exact f2 4 (by decide)
          · show m_xAnew i2 36 5 = nI 0
            rw [X36]; exact f2 5 (by decide)
          · show m_xAnew i2 36 6 = nI 0
            rw [X36]; exact f2 6 (by decide)
          · show m_xAnew i2 37 u = nI 0
            rw [X37]; exact f3 u hu
          · show m_xAnew i2 36 10 = nI 0
            rw [X36]; exact f2 10 (by decide)
          · show m_xAnew i2 36 3 = nI 0
            rw [X36]; exact f2 3 (by decide)
          · show m_xAnew i2 36 1 = 0
            rw [X36]; exact f2 1 (by decide)
        · rw [if_neg q, if_neg q, if_pos (show P.len t = 6 by omega), if_pos (show P.len t = 6 by omega), if_pos (show P.len t = 6 by omega)]
          exact ⟨rfl, P, a, s, h⟩
      · have a1 := isA_n (iv := x.2.1) hc hv
        rw [if_pos a1, if_pos a1, selO_n hc hv, selO_n hc hv, selO_n hc hv]
        exact ⟨rfl, P, a, s, h⟩
    · have a1 := isA_o (iv := x.2.1) (a := o) hn2
      rw [if_pos a1, if_pos a1, selO_o hn2, selO_o hn2, selO_o hn2]
      exact ⟨rfl, P, a, s, h⟩
  · have e1 := isT_n (iv := x.2.1) hn
    have e2 : ¬ r_oOut y.1 tt 4 = 0 := by rw [show r_oOut y.1 tt 4 = 1 from out_n (w := 4) hn]; decide
    refine ⟨4, 0, fun q => absurd e1 q, fun q => absurd q e2, fun q => absurd q (by decide), by decide, fun q => absurd q (by decide), ?_⟩
    rw [eR, eM, eN, if_neg e2, if_neg e2, if_neg e2]
    unfold r_xAct m_xAct
    rw [if_pos e1, if_pos e1]
    exact ⟨rfl, P, a, s, h⟩
theorem LJ.exploreD (h : LJ P a s x y) (hd : ¬ x.2.1 36 1 = 0) : ∃ J, okE y J ∧ x.2.1 36 2 = r_oExplore y J ∧ LJ P a s x (exR y J) := by
  rcases h.mode with ⟨q, _⟩ | ⟨q, J, hJ, hs, ha⟩
  · exact absurd q hd
  · obtain ⟨r1, r2, r3, r4⟩ := ref_through (x := y) h.pr h.sr.rp hJ.1 hJ.2.1 hJ.2.2
    refine ⟨J, r1, by rw [ha, r2], ?_⟩
    rw [← hs] at r3
    exact ⟨h.pr, h.cp, h.cr, h.ok, fun j hj => by rw [r4.lv 16 (by decide) (by decide) (by decide)]; exact h.r16 j hj, by rw [r4.i0 17 (by decide)]; exact h.ch, h.cap, h.cc, h.cnt, r3, h.L, h.mode⟩
theorem LJ.explore (h : LJ P a s x y) (hd : x.2.1 36 1 = 0) : ∃ Kf J, okTh x Kf J ∧ okE y J ∧ (thM x Kf J).2.1 36 2 = r_oExplore y J ∧ (tI x Kf J).1 = (thM x Kf J).1 ∧ XF x (thM x Kf J) ∧ ∃ s', LJ P a s' (thM x Kf J) (exR y J) := by
  have hz : CC x (s0A P) := by
    rcases h.mode with ⟨_, σ, f, hs⟩ | ⟨q, _⟩
    · have hc := h.cc
      rw [hs] at hc
      exact ⟨hc.fin, hc.all, hc.mst, hc.bl, hc.len, fun j hj => absurd hj (Nat.not_lt_zero _), hc.cap, Nat.zero_le _⟩
    · rw [hd] at q; exact absurd q (by decide)
  obtain ⟨J, j1, j2, j3⟩ := eA_end P
  obtain ⟨Kf, k1, k2, k3⟩ := class_through h.pr h.cp h.cap hz j1 j2 j3
  obtain ⟨r1, r2, r3, r4⟩ := ref_through (x := y) h.pr h.sr.rp j1 j2 j3
  refine ⟨Kf, J, k1, r1, by rw [k2.ans, r2], ?_, k3, oA (eA P J), ?_⟩
  · unfold thM tF
    split <;> rfl
  · have gs := eA_gs h.pr J (fun i hi => (j1 i hi).1)
    have F := k3.iv
    refine ⟨h.pr, ⟨fun t ht => by rw [F _ (by omega) (by omega) (by omega) (by omega) (by omega) (by omega) (by omega)]; exact h.cp.len t ht, fun t p ht hp => by rw [F _ (by omega) (by omega) (by omega) (by omega) (by omega) (by omega) (by omega)]; exact h.cp.act t p ht hp, fun t p ht hp hh => by rw [F _ (by omega) (by omega) (by omega) (by omega) (by omega) (by omega) (by omega)]; exact h.cp.opd t p ht hp hh, fun m hm => by rw [F _ (by omega) (by omega) (by omega) (by omega) (by omega) (by omega) (by omega)]; exact h.cp.loose m hm⟩, ⟨fun t ht => by rw [F _ (by omega) (by omega) (by omega) (by omega) (by omega) (by omega) (by omega)]; exact h.cr.th t ht, fun m hm => by rw [F _ (by omega) (by omega) (by omega) (by omega) (by omega) (by omega) (by omega), F _ (by omega) (by omega) (by omega) (by omega) (by omega) (by omega) (by omega)]; exact h.cr.mo m hm, fun _ _ _ _ => rfl⟩, h.ok, fun j hj => by rw [r4.lv 16 (by decide) (by decide) (by decide)]; exact h.r16 j hj, ?_, k3.cap, k2.cc, k2.cnt, r3, ?_, Or.inr ⟨k2.done, J, ⟨j1, j2, j3⟩, rfl, k2.ans⟩⟩
    · rw [F 0 (by decide) (by decide) (by decide) (by decide) (by decide) (by decide) (by decide), r4.i0 17 (by decide)]; exact h.ch
    · have := gs.L
      have := gs.fin
      unfold oA
      split
      · exact Nat.zero_le _
      · omega
end
theorem LJ.start {lo : Nat} (hlo : lo ≤ 1) : ∃ P a s, LJ P a s (kL0, kI0 (nI lo), fun _ _ => 0) (m_oReset (rI0 (nI lo)), n_oReset (rI0 (nI lo)) (fun _ _ => 0)) := by
  let P : PR := ⟨fun _ => 0, fun _ _ => 0, fun _ _ => 0, lo⟩
  have hP : okPR P := ⟨fun _ _ => Nat.zero_le _, fun _ _ _ h => absurd h (Nat.not_lt_zero _), fun _ _ _ h => absurd h (Nat.not_lt_zero _), fun _ _ _ h => absurd h (Nat.not_lt_zero _), hlo⟩
  have hR : RP (rI0 (nI lo)) P := by
    refine ⟨fun t ht => ?_, fun _ _ _ h => absurd h (Nat.not_lt_zero _), fun _ _ _ h => absurd h (Nat.not_lt_zero _), ?_⟩
    · show (if (3 : Nat) = 0 ∧ t = 0 then _ else (0 : Int32)) = nI 0
      rw [if_neg (by omega)]; rfl
    · show (if (0 : Nat) = 0 ∧ (0 : Nat) = 0 then _ else (0 : Int32)) = _
      rw [if_pos ⟨rfl, rfl⟩]
  obtain ⟨r1, r2, r3⟩ := reset_eq (lv := fun _ _ => (0 : Int64)) hP hR
  have hZ : SRr (rI0 (nI lo), fun _ _ => (0 : Int64)) P (zSS (fun _ => aBeg P) (fun _ => 0)) := by
    have z : ∀ c k, ¬ (c = 0 ∧ k = 0) → rI0 (nI lo) c k = 0 := fun c k h => by show (if c = 0 ∧ k = 0 then _ else _) = _; rw [if_neg h]
    exact ⟨z 0 19 (by decide), fun i j hi _ => absurd hi (Nat.not_lt_zero _), z 0 20 (by decide), z 0 21 (by decide), z 0 22 (by decide), fun t _ => z 19 t (by omega), z 0 23 (by decide), fun j hj => absurd hj (Nat.not_lt_zero _), hR⟩
  obtain ⟨g1, g2⟩ := reset_SRr hP hZ
  have K : ∀ c k, ¬ (c = 14 ∨ c = 15) → ¬ (20 ≤ c ∧ c < 28) → ¬ ((28 ≤ c ∧ c < 32) ∧ k = 0) → kI0 (nI lo) c k = 0 := fun c k h1 h2 h3 => by
    show (if c = 14 ∨ c = 15 then _ else if 20 ≤ c ∧ c < 28 then _ else if (28 ≤ c ∧ c < 32) ∧ k = 0 then _ else _) = _
    rw [if_neg h1, if_neg h2, if_neg h3]
  have hW : ∀ t k, t < 4 → kI0 (nI lo) (20 + 4 * 0 + t) k = if k = 0 then 4 else if k = 7 then 1 else 0 := fun t k ht => by
    show (if 20 + 4 * 0 + t = 14 ∨ 20 + 4 * 0 + t = 15 then _ else if 20 ≤ 20 + 4 * 0 + t ∧ 20 + 4 * 0 + t < 28 then _ else _) = _
    rw [if_neg (by omega), if_pos (by omega)]
  refine ⟨P, aBeg P, zSS (fun _ => aBeg P) (fun _ => 0), hP, ⟨fun t ht => ?_, fun _ _ _ h => absurd h (Nat.not_lt_zero _), fun _ _ _ h => absurd h (Nat.not_lt_zero _), fun m hm => ?_⟩, ⟨fun t ht => ?_, fun m hm => ?_, fun _ _ _ _ => rfl⟩, okAS.beg, r2, ?_, ⟨Or.inl rfl, rfl, Or.inl rfl⟩, ⟨K 36 4 (by decide) (by decide) (by decide), K 36 5 (by decide) (by decide) (by decide), K 36 6 (by decide) (by decide) (by decide), fun t _ => K 37 t (by decide) (by decide) (by omega), K 36 10 (by decide) (by decide) (by decide), fun j hj => absurd hj (Nat.not_lt_zero _), Or.inl rfl, Nat.zero_le _⟩, K 36 3 (by decide) (by decide) (by decide), g1, Nat.zero_le _, Or.inl ⟨K 36 1 (by decide) (by decide) (by decide), _, _, rfl⟩⟩
  · exact K (2 + t) 2 (by omega) (by omega) (by omega)
  · show (if 14 + m = 14 ∨ 14 + m = 15 then nI lo else _) = nI lo
    rw [if_pos (by omega)]
  · have e : (aBeg P).th t = ⟨4, 0, 0, 0, 0, 0, 0, 0⟩ := rfl
    rw [e]
    unfold CT
    simp only [hW t _ ht]
    decide
  · refine ⟨?_, K _ 1 (by omega) (by omega) (by omega), K _ 2 (by omega) (by omega) (by omega), fun j hj => absurd hj (Nat.not_lt_zero _)⟩
    show (if 28 + 2 * 0 + m = 14 ∨ 28 + 2 * 0 + m = 15 then _ else if 20 ≤ 28 + 2 * 0 + m ∧ 28 + 2 * 0 + m < 28 then _ else if (28 ≤ 28 + 2 * 0 + m ∧ 28 + 2 * 0 + m < 32) ∧ 0 = 0 then -1 else _) = _
    rw [if_neg (by omega), if_neg (by omega), if_pos (by omega)]
    rfl
  · show kI0 (nI lo) 0 3 = m_oReset (rI0 (nI lo)) 0 17
    rw [K 0 3 (by decide) (by decide) (by decide)]
    exact g2.symm
