section
variable {jv0 jv : Nat → Nat → Int32} {lv0 lv : Nat → Nat → Int64} {e t : Nat} {a : AS} {P : PR}
theorem RR.upM (h : RR jv0 lv0 jv lv e a) {c m : Nat} (hc : 12 ≤ c ∧ c ≤ 14) {v : Int32} {y : MO} (hy : RM2 (up2 jv c m v) m y) : RR jv0 lv0 (up2 jv c m v) lv e (sM a m y) :=
  ⟨fun u hu => by
    unfold RT
    rw [u2n (by omega), u2n (by omega), u2n (by omega), u2n (by omega), u2n (by omega), u2n (by omega), u2n (by omega)]
    exact h.th u hu,
   fun m' hm' => by
    show RM2 _ _ (if m' = m then y else a.mo m')
    by_cases q : m' = m
    · rw [if_pos q]; subst q; exact hy
    · rw [if_neg q]
      have key : ∀ d, up2 jv c m v d m' = jv d m' := fun d => by
        unfold up2
        split
        · rename_i e2; subst e2; unfold upd; rw [if_neg q]
        · rfl
      unfold RM2
      simp only [key]
      rw [u2n (by omega)]
      exact h.mo m' hm',
   fun d hd => by rw [u2n (by omega)]; exact h.fr d hd,
   h.fl⟩
theorem RR.ow (h : RR jv0 lv0 jv lv e a) {m : Nat} (hm : m < 2) (w : Nat) : RR jv0 lv0 (up2 jv 12 m (nI w - 1)) lv e (sM a m (MO.mk w ((a.mo m).de) ((a.mo m).q))) := h.upM (by omega) (by
  have hM := h.mo m hm
  refine ⟨by simp [up2, upd], ?_, ?_, ?_⟩
  · rw [u2n (by decide)]; exact hM.2.1
  · rw [u2n (by decide)]; exact hM.2.2.1
  · rw [u2n (by decide)]; exact hM.2.2.2)
theorem RR.de (h : RR jv0 lv0 jv lv e a) {m : Nat} (hm : m < 2) (w : Nat) : RR jv0 lv0 (up2 jv 13 m (nI w)) lv e (sM a m (MO.mk ((a.mo m).ow) w ((a.mo m).q))) := h.upM (by omega) (by
  have hM := h.mo m hm
  refine ⟨?_, by simp [up2, upd], ?_, ?_⟩
  · rw [u2n (by decide)]; exact hM.1
  · rw [u2n (by decide)]; exact hM.2.2.1
  · rw [u2n (by decide)]; exact hM.2.2.2)
theorem shL_sp {b : Nat} : ∀ (n i : Nat) (jv : Nat → Nat → Int32), (∀ d, ¬ d = 15 → shL b n i jv d = jv d) ∧ ∀ y, shL b n i jv 15 y = if b + i ≤ y ∧ y < b + i + n then jv 15 (y + 1) else jv 15 y
  | 0, i, jv => ⟨fun _ _ => rfl, fun y => by rw [if_neg (by omega)]; rfl⟩
  | n + 1, i, jv => by
    obtain ⟨h1, h2⟩ := shL_sp (b := b) n (i + 1) (up2 jv 15 (b + i) (jv 15 (b + i + 1)))
    refine ⟨fun d hd => by rw [shL, h1 d hd, u2n hd], fun y => ?_⟩
    rw [shL, h2 y, u2s]
    unfold upd
    by_cases q : y = b + i
    · rw [if_neg (by omega), if_pos q, if_pos (by omega), q]
    · by_cases q2 : b + (i + 1) ≤ y ∧ y < b + (i + 1) + n
      · rw [if_pos q2, if_neg (by omega), if_pos (by omega)]
      · rw [if_neg q2, if_neg q, if_neg (by omega)]
theorem erase_at : ∀ (l : List Nat) (k v : Nat), k < l.length → l.getD k 0 = v → (∀ j, j < k → ¬ l.getD j 0 = v) → l.erase v = l.eraseIdx k
  | [], k, v, h, _, _ => absurd h (Nat.not_lt_zero _)
  | x :: l, 0, v, _, h, _ => by
    have : x = v := by simpa using h
    subst this
    simp
  | x :: l, k + 1, v, h, h1, h2 => by
    have h0 : ¬ x = v := by have := h2 0 (by omega); simpa using this
    rw [List.erase_cons_tail (by simpa using h0), List.eraseIdx_cons_succ, erase_at l k v (by simpa using h) (by simpa using h1) (fun j hj => by have := h2 (j + 1) (by omega); simpa using this)]
theorem getD_er (l : List Nat) (k j : Nat) : (l.eraseIdx k).getD j 0 = if j < k then l.getD j 0 else l.getD (j + 1) 0 := by
  rw [List.getD_eq_getElem?_getD, List.getElem?_eraseIdx]
  split
  · rw [List.getD_eq_getElem?_getD]
  · rw [List.getD_eq_getElem?_getD]
theorem nodup_get {l : List Nat} (h : l.Nodup) {i j : Nat} (hi : i < l.length) (hj : j < l.length) (e : l.getD i 0 = l.getD j 0) : i = j := by
  rw [List.getD_eq_getElem?_getD, List.getD_eq_getElem?_getD, List.getElem?_eq_getElem hi, List.getElem?_eq_getElem hj] at e
  have e : l[i] = l[j] := e
  have h := List.pairwise_iff_getElem.1 h
  rcases Nat.lt_trichotomy i j with q | q | q
  · exact absurd e (h i j hi hj q)
  · exact q
  · exact absurd e.symm (h j i hj hi q)
theorem RR.leave (h : RR jv0 lv0 jv lv e a) {m t k : Nat} (hm : m < 2) (ht : t < 4) (hs : (a.th t).st = 1) (hok : okAS P a) (hk : k < (a.mo m).q.length) (hkt : (a.mo m).q.getD k 0 = t) : RR jv0 lv0 (m_oLeave jv t m (a.mo m).q.length k) lv e (sT (sM a m (MO.mk ((a.mo m).ow) ((a.mo m).de) ((a.mo m).q.erase t))) t (TH.mk 2 ((a.th t).pl) ((a.th t).kp) ((a.th t).fi) ((a.th t).fp) ((a.th t).fs) ((a.th t).n) ((a.th t).r))) := by
  have hnd := hok.nd m hm
  have hl := hok.len hm
  have e1 := erase_at (a.mo m).q k t hk hkt (fun j hj e2 => by
    have := nodup_get hnd (show j < (a.mo m).q.length by omega) hk (by rw [e2, hkt])
    omega)
  unfold m_oLeave
  obtain ⟨g1, g2⟩ := shL_sp (b := 4 * m) ((a.mo m).q.length - 1 - k) k (up2 jv 14 m (nI ((a.mo m).q.length - 1)))
  have h1 : RR jv0 lv0 (shL (4 * m) ((a.mo m).q.length - 1 - k) k (up2 jv 14 m (nI ((a.mo m).q.length - 1)))) lv e (sM a m (MO.mk ((a.mo m).ow) ((a.mo m).de) ((a.mo m).q.erase t))) := by
    refine ⟨fun u hu => ?_, fun m' hm' => ?_, fun d hd => ?_, h.fl⟩
    · unfold RT
      rw [g1 _ (by decide), g1 _ (by decide), g1 _ (by decide), g1 _ (by decide), g1 _ (by decide), g1 _ (by decide), g1 _ (by decide), u2n (by decide), u2n (by decide), u2n (by decide), u2n (by decide), u2n (by decide), u2n (by decide), u2n (by decide)]
      exact h.th u hu
    · show RM2 _ _ (if m' = m then _ else a.mo m')
      have hM' := h.mo m' hm'
      by_cases q : m' = m
      · rw [if_pos q]; subst q
        refine ⟨?_, ?_, ?_, fun j hj => ?_⟩
        · rw [g1 _ (by decide), u2n (by decide)]; exact hM'.1
        · rw [g1 _ (by decide), u2n (by decide)]; exact hM'.2.1
        · rw [g1 _ (by decide), u2s, e1, List.length_eraseIdx_of_lt hk]; simp [upd]
        · have hj : j < ((a.mo m').q.erase t).length := hj
          show _ = nI (((a.mo m').q.erase t).getD j 0)
          rw [e1, List.length_eraseIdx_of_lt hk] at hj
          rw [g2, u2n (by decide), e1, getD_er]
          by_cases q2 : j < k
          · rw [if_neg (by omega), if_pos q2]; exact hM'.2.2.2 j (by omega)
          · rw [if_pos (by omega), if_neg q2, Nat.add_assoc]; exact hM'.2.2.2 (j + 1) (by omega)
      · rw [if_neg q]
        refine ⟨?_, ?_, ?_, fun j hj => ?_⟩
        · rw [g1 _ (by decide), u2n (by decide)]; exact hM'.1
        · rw [g1 _ (by decide), u2n (by decide)]; exact hM'.2.1
        · rw [g1 _ (by decide), u2s]; unfold upd; rw [if_neg q]; exact hM'.2.2.1
        · have := hok.len hm'
          rw [g2, u2n (by decide), if_neg (by omega)]; exact hM'.2.2.2 j hj
    · rw [g1 _ (by omega), u2n (by omega)]; exact h.fr d hd
  exact h1.st ht 2 (by unfold pR; simp [sM_th, hs])
theorem RR.ntf (h : RR jv0 lv0 jv lv e a) {m v k : Nat} (hm : m < 2) (hok : okAS P a) (hk : k < (a.mo m).q.length) (hkt : (a.mo m).q.getD k 0 = v) : RR jv0 lv0 (m_oNotif jv v m (a.mo m).q.length k) (n_oNotif jv lv v m (a.mo m).q.length k) e (aNtf a m v) := by
  have hq := hok.q m hm v (by rw [← hkt]; exact getD_mem hk)
  have h1 := (h.leave hm hq.1 hq.2.1 hok hk hkt).put hq.1 2 (by decide) (m_oLeave jv v m (a.mo m).q.length k)
  rw [sT_sT, sT_th] at h1
  exact h1
theorem RR.ntA {m : Nat} (hm : m < 2) : ∀ (k : Nat) (jv : Nat → Nat → Int32) (lv : Nat → Nat → Int64) (a : AS), RR jv0 lv0 jv lv e a → okAS P a → (a.mo m).q.length = k → RR jv0 lv0 (nAllM m k jv) (nAllN m k jv lv) e (aNtA m k a)
  | 0, jv, lv, a, h, _, _ => h
  | k + 1, jv, lv, a, h, hok, hk => by
    have hl := hok.len hm
    rw [nAllM, nAllN, aNtA]
    have hq := hok.q m hm _ (headD_mem (l := (a.mo m).q) (by omega))
    have e1 : (jv 15 (4 * m)).toNatClampNeg = (a.mo m).q.headD 0 := by
      have := (h.mo m hm).2.2.2 0 (by omega)
      rw [Nat.add_zero, ← headD_getD] at this
      rw [this, qC (by omega)]
    rw [e1]
    have h1 := h.ntf (k := 0) hm hok (by omega) (headD_getD (a.mo m).q).symm
    rw [hk] at h1
    exact RR.ntA hm k _ _ _ h1 (hok.ntf hm (headD_mem (by omega))) (by rw [ntf_q (by omega), List.length_tail]; omega)
theorem RR.into (h : RR jv0 lv0 jv lv t a) {m : Nat} (hm : m < 2) (ht : t < 4) (hok : okAS P a) (hl : (a.mo m).q.length < 4) (hi : (a.th t).fi = 0) : RR jv0 lv0 (m_oWait jv t m (a.mo m).q.length) (n_oWait jv lv t m (a.mo m).q.length) 4 (sM (sT a t (TH.mk 1 ((a.th t).pl) ((a.mo m).de) ((a.th t).fi) ((a.th t).fp) ((a.th t).fs) ((a.th t).n) ((a.th t).r))) m (MO.mk 0 0 ((a.mo m).q ++ [t]))) := by
  have hM := h.mo m hm
  have hT := h.th t ht
  unfold m_oWait n_oWait
  rw [if_pos (by rw [hT.2.2.2.2.2.1, hi]; rfl), if_pos (by rw [hT.2.2.2.2.2.1, hi]; rfl), hM.2.1]
  have h1 := ((h.kp ht (a.mo m).de).ow hm 0).de hm 0
  rw [sM_sM, sM_mo] at h1
  have h2 : RR jv0 lv0 (up2 (up2 (up2 (up2 (up2 jv 6 t (nI (a.mo m).de)) 12 m (-1)) 13 m 0) 15 (4 * m + (a.mo m).q.length) (nI t)) 14 m (nI ((a.mo m).q.length + 1))) lv t (sM (sT a t (TH.mk ((a.th t).st) ((a.th t).pl) ((a.mo m).de) ((a.th t).fi) ((a.th t).fp) ((a.th t).fs) ((a.th t).n) ((a.th t).r))) m (MO.mk 0 0 ((a.mo m).q ++ [t]))) := by
    refine ⟨fun u hu => ?_, fun m' hm' => ?_, fun d hd => ?_, h.fl⟩
    · unfold RT
      rw [u2n (by decide), u2n (by decide), u2n (by decide), u2n (by decide), u2n (by decide), u2n (by decide), u2n (by decide), u2n (by decide), u2n (by decide), u2n (by decide), u2n (by decide), u2n (by decide), u2n (by decide), u2n (by decide)]
      exact h1.th u hu
    · show RM2 _ _ (if m' = m then _ else a.mo m')
      have hM' : RM2 _ _ (if m' = m then _ else a.mo m') := h1.mo m' hm'
      have hl' := hok.len hm'
      by_cases q : m' = m
      · rw [if_pos q] at *; subst q
        refine ⟨?_, ?_, ?_, fun j hj => ?_⟩
        · rw [u2n (by decide), u2n (by decide)]; exact hM'.1
        · rw [u2n (by decide), u2n (by decide)]; exact hM'.2.1
        · rw [u2s]; show (if m' = m' then _ else _) = nI ((a.mo m').q ++ [t]).length; rw [if_pos rfl]; simp
        · have hj : j < ((a.mo m').q ++ [t]).length := hj
          rw [List.length_append] at hj
          have hj : j < (a.mo m').q.length + 1 := hj
          show _ = nI (((a.mo m').q ++ [t]).getD j 0)
          rw [u2n (by decide), u2s]
          unfold upd
          by_cases q2 : j = (a.mo m').q.length
          · rw [if_pos (by omega), q2, getD_app1]
          · rw [if_neg (by omega), getD_app (by omega)]; exact hM'.2.2.2 j (by show j < (a.mo m').q.length; omega)
      · rw [if_neg q] at *
        refine ⟨?_, ?_, ?_, fun j hj => ?_⟩
        · rw [u2n (by decide), u2n (by decide)]; exact hM'.1
        · rw [u2n (by decide), u2n (by decide)]; exact hM'.2.1
        · rw [u2s]; unfold upd; rw [if_neg q, u2n (by decide)]; exact hM'.2.2.1
        · rw [u2n (by decide), u2s]; unfold upd; rw [if_neg (by omega)]; exact hM'.2.2.2 j hj
    · rw [u2n (by omega), u2n (by omega)]; exact h1.fr d hd
  have e2 : (up2 (up2 (up2 (up2 jv 6 t (nI (a.mo m).de)) 12 m (-1)) 13 m 0) 15 (4 * m + (a.mo m).q.length) (nI t)) 14 m + 1 = nI ((a.mo m).q.length + 1) := by
    rw [u2n (by decide), u2n (by decide), u2n (by decide), u2n (by decide), hM.2.2.1, qS]
  rw [e2]
  have h3 := h2.st ht 1 (by unfold pR; simp)
  rw [sT_sM, sT_sT, sM_th, sT_th] at h3
  exact h3.dim (by rw [sM_th, sT_th]; exact Or.inl rfl)
end
