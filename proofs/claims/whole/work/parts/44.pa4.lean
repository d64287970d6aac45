section
variable {iv0 iv : Nat → Nat → Int32} {mi : Nat} {a : AS} {P : PR}
theorem sM_sM (a : AS) (m : Nat) (x y : MO) : sM (sM a m x) m y = sM a m y := by
  refine Prod.ext rfl (funext fun u => ?_)
  show (if u = m then y else (if u = m then x else a.mo u)) = if u = m then y else a.mo u
  by_cases h : u = m <;> simp [h]
theorem CR.own (h : CR iv0 iv mi a) (hmi : mi < 2) {m : Nat} (hm : m < 2) (w d : Nat) : CR iv0 (up2 (up2 iv (28 + 2 * mi + m) 0 (nI w - 1)) (28 + 2 * mi + m) 1 (nI d)) mi (sM a m (MO.mk w d ((a.mo m).q))) := by
  have hM := h.mo m hm
  have h1 := h.upM hmi hm (k := 0) (v := nI w - 1) (y := (MO.mk w ((a.mo m).de) ((a.mo m).q))) (by exact ⟨by simp [upd], hM.2.1, hM.2.2.1, hM.2.2.2⟩)
  have hM1 := h1.mo m hm
  rw [sM_mo] at hM1
  have h2 := h1.upM hmi hm (k := 1) (v := nI d) (y := (MO.mk w d ((a.mo m).q))) (by
    refine ⟨?_, ?_, ?_, hM1.2.2.2⟩
    · exact hM1.1
    · show (if 1 = 1 then _ else _) = _; rw [if_pos rfl]
    · exact hM1.2.2.1)
  rw [sM_sM] at h2
  exact h2
theorem CR.free (h : CR iv0 iv mi a) (hmi : mi < 2) {m : Nat} (hm : m < 2) : CR iv0 (m_mSetFree iv mi m) mi (sM a m (MO.mk 0 0 ((a.mo m).q))) := by
  have h1 := h.own hmi hm 0 0
  exact h1
theorem CR.ownT (h : CR iv0 iv mi a) (hmi : mi < 2) {m : Nat} (hm : m < 2) (t d : Nat) : CR iv0 (m_mOwn iv mi m (nI t) (nI d)) mi (sM a m (MO.mk (t + 1) d ((a.mo m).q))) := by
  have h1 := h.own hmi hm (t + 1) d
  rw [qS, Int32.add_sub_cancel] at h1
  exact h1
theorem CR.leave (h : CR iv0 iv mi a) (hmi : mi < 2) {m : Nat} (hm : m < 2) (hd : 1 ≤ (a.mo m).de) (hd6 : (a.mo m).de ≤ 6) : CR iv0 (m_mLeave iv mi m) mi (sM a m (if (a.mo m).de - 1 = 0 then (MO.mk 0 0 ((a.mo m).q)) else (MO.mk ((a.mo m).ow) ((a.mo m).de - 1) ((a.mo m).q)))) := by
  have hM := h.mo m hm
  have h1 := h.upM hmi hm (k := 1) (v := nI ((a.mo m).de - 1)) (y := (MO.mk ((a.mo m).ow) ((a.mo m).de - 1) ((a.mo m).q))) (by
    refine ⟨hM.1, ?_, hM.2.2.1, hM.2.2.2⟩
    show (if 1 = 1 then _ else _) = _; rw [if_pos rfl])
  unfold m_mLeave
  rw [hM.2.1, qpred hd]
  have e1 : up2 iv (28 + 2 * mi + m) 1 (nI ((a.mo m).de - 1)) (28 + 2 * mi + m) 1 = nI ((a.mo m).de - 1) := by rw [u2s]; simp [upd]
  rw [e1]
  by_cases h0 : (a.mo m).de - 1 = 0
  · rw [if_pos h0, if_neg (by rw [q0, qLt (by omega) (by omega)]; omega)]
    have h2 := h1.free hmi hm
    rw [sM_sM, sM_mo] at h2
    exact h2
  · rw [if_neg h0, if_pos (by rw [q0, qLt (by omega) (by omega)]; omega)]
    exact h1
theorem getD_app {l : List Nat} {x j : Nat} (h : j < l.length) : (l ++ [x]).getD j 0 = l.getD j 0 := by rw [List.getD_eq_getElem?_getD, List.getD_eq_getElem?_getD, List.getElem?_append_left h]
theorem getD_app1 {l : List Nat} {x : Nat} : (l ++ [x]).getD l.length 0 = x := by simp
theorem CR.add (h : CR iv0 iv mi a) (hmi : mi < 2) {m t : Nat} (hm : m < 2) (hl : (a.mo m).q.length < 4) : CR iv0 (m_mAdd iv mi m (nI t) (a.mo m).q.length) mi (sM a m (MO.mk ((a.mo m).ow) ((a.mo m).de) ((a.mo m).q ++ [t]))) := by
  have hM := h.mo m hm
  unfold m_mAdd
  rw [if_neg (by rw [q4, qLe (by omega) (by omega)]; omega), ← qS]
  refine ⟨fun u hu => ?_, fun m' hm' => ?_, fun c h1 h2 h3 => ?_⟩
  · rw [u2n (by omega), u2n (by omega)]; exact h.th u hu
  · show CM _ _ (if m' = m then _ else a.mo m')
    split
    · rename_i e; subst e
      rw [u2s, u2n (a := 28 + 2 * mi + m') (by omega), u2n (a := 32 + 2 * mi + m') (by omega), u2s]
      refine ⟨hM.1, hM.2.1, ?_, fun j hj => ?_⟩
      · show (if 2 = 2 then _ else _) = nI ((a.mo m').q ++ [t]).length; rw [if_pos rfl]; simp
      · have hj : j < ((a.mo m').q ++ [t]).length := hj
        have hj : j < (a.mo m').q.length + 1 := by simpa using hj
        unfold upd
        split
        · rename_i e; rw [e, getD_app1]
        · rw [getD_app (by omega)]; exact hM.2.2.2 j (by omega)
    · rw [u2n (by omega), u2n (by omega), u2n (by omega), u2n (by omega)]; exact h.mo m' hm'
  · rw [u2n (by omega), u2n (by omega)]; exact h.fr c h1 h2 h3
theorem CR.into (h : CR iv0 iv mi a) (hmi : mi < 2) {m t : Nat} (hm : m < 2) (ht : t < 4) (hl : (a.mo m).q.length < 4) : CR iv0 (m_aInto iv mi t m (a.mo m).q.length) mi (sM (sT a t (TH.mk 1 ((a.th t).pl) ((a.mo m).de) ((a.th t).fi) ((a.th t).fp) ((a.th t).fs) ((a.th t).n) ((a.th t).r))) m (MO.mk 0 0 ((a.mo m).q ++ [t]))) := by
  unfold m_aInto
  rw [(h.mo m hm).2.1]
  have h1 := ((h.kp hmi ht (a.mo m).de).st hmi ht 1).free hmi hm
  rw [sT_sT, sT_th] at h1
  have h2 := h1.add (t := t) hmi hm (by rw [sM_mo]; exact hl)
  rw [sM_sM, sM_mo] at h2
  exact h2
theorem getD_mem {l : List Nat} {j : Nat} (h : j < l.length) : l.getD j 0 ∈ l := by
  rw [List.getD_eq_getElem?_getD, List.getElem?_eq_getElem h]; exact List.getElem_mem h
theorem waiter_at (h : CR iv0 iv mi a) {m k : Nat} (hm : m < 2) (hl : (a.mo m).q.length ≤ 4) (hk : k < (a.mo m).q.length) : r_mWaiter iv mi m (nI k) = nI ((a.mo m).q.getD k 0) := by
  have hM := h.mo m hm
  unfold r_mWaiter
  rw [if_neg (by rw [q0, qLt (by omega) (by omega)]; omega), hM.2.2.1, if_neg (by rw [qLe (by omega) (by omega)]; omega), qC (by omega)]
  exact hM.2.2.2 k hk
theorem CR.ntf (h : CR iv0 iv mi a) (hmi : mi < 2) {m k : Nat} (hm : m < 2) (hok : okAS P a) (hk : k < (a.mo m).q.length) : CR iv0 (m_aNotify iv mi m (nI k) (a.mo m).q.length) mi (aNtf a m ((a.mo m).q.getD k 0)) := by
  have hl := hok.len hm
  have hw := waiter_at h hm hl hk
  have hq := hok.q m hm _ (getD_mem hk)
  generalize hv : (a.mo m).q.getD k 0 = v at *
  unfold m_aNotify
  rw [hw, qC (by omega), if_neg (by intro e; have := congrArg Int32.toInt e; rw [qI (by omega)] at this; simp at this)]
  have h1 := ((h.drop hmi hm hq.1 (hok.nd m hm) (fun w hw => (hok.q m hm w hw).1)).put hmi hq.1 2).st hmi hq.1 2
  rw [sT_sT, sT_th] at h1
  exact h1
theorem headD_getD (l : List Nat) : l.headD 0 = l.getD 0 0 := by cases l <;> rfl
theorem lastD_getD {l : List Nat} (h : 0 < l.length) : l.getLastD 0 = l.getD (l.length - 1) 0 := by
  match l, h with
  | x :: l, _ => 
    rw [List.getD_eq_getElem?_getD, ← List.getLast?_eq_getElem?]
    rw [List.getLastD_cons, List.getLast?_cons, List.getLastD_eq_getLast?]; rfl
theorem CR.ntA (hmi : mi < 2) {m : Nat} (hm : m < 2) : ∀ (k : Nat) (iv : Nat → Nat → Int32) (a : AS), CR iv0 iv mi a → okAS P a → (a.mo m).q.length = k → CR iv0 (nAll mi m k iv) mi (aNtA m k a)
  | 0, iv, a, h, _, _ => h
  | k + 1, iv, a, h, hok, hk => by
    have hl := hok.len hm
    rw [nAll, aNtA]
    have e1 : (iv (28 + 2 * mi + m) 2).toNatClampNeg = (a.mo m).q.length := by rw [(h.mo m hm).2.2.1, qC (by omega)]
    rw [e1]
    have h1 := h.ntf (k := 0) hmi hm hok (by omega)
    rw [← headD_getD] at h1
    exact CR.ntA hmi hm k _ _ h1 (hok.ntf hm (headD_mem (by omega))) (by rw [ntf_q (by omega), List.length_tail]; omega)
end
