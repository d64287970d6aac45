section
variable {jv0 jv : Nat → Nat → Int32} {lv0 lv : Nat → Nat → Int64} {e t : Nat} {a : AS} {P : PR}
theorem aGo_sT (a : AS) (t : Nat) (x : TH) : sT a t (aRun P t x) = aGo P (sT a t x) t := by unfold aGo; rw [sT_sT, sT_th]
theorem RR.rp (h : RR jv0 lv0 jv lv e a) (hC : RP jv0 P) : RP jv P := hC.of (fun c hc => h.fr c (by omega))
theorem RR.fin (h : RR jv0 lv0 jv lv t a) (hP : okPR P) (hC : RP jv0 P) (ht : t < 4) (hs : (a.th t).st = 0) (hl : (a.th t).pl < P.len t) : RR jv0 lv0 (if jv 5 t = 0 then m_oRun jv t else jv) lv 4 (aGo P a t) := by
  rw [if_pos (by rw [(h.th t ht).1, hs]; rfl)]
  exact h.run hP (h.rp hC) ht hl (by unfold pR; simp) (by omega) (fun u hu hne => by omega)
theorem RR.fin2 (h : RR jv0 lv0 jv lv 4 a) (ht : t < 4) (hs : ¬ (a.th t).st = 0) (hs4 : (a.th t).st ≤ 4) : RR jv0 lv0 (if jv 5 t = 0 then m_oRun jv t else jv) lv 4 a := by
  rw [if_neg (by rw [(h.th t ht).1, q0, nlit (by omega) (by decide)]; exact hs)]
  exact h
theorem pO_eq (h : RR jv0 lv0 jv lv 4 a) (hP : okPR P) (hok : okAS P a) (ht : t < 4) : pO jv t = pR 4 t (a.th t) := by
  have h1 := hok.th t ht
  have h2 := hP.len t ht
  have h3 := h1.pl
  unfold pO
  rw [(h.th t ht).2.1, qC (by unfold pR; split <;> omega)]
theorem xO_eq (h : RR jv0 lv0 jv lv 4 a) (hC : RP jv0 P) (hP : okPR P) (hok : okAS P a) (ht : t < 4) (hs : (a.th t).st = 0 ∨ (a.th t).st = 1 ∨ (a.th t).st = 2) (hc : P.act t (a.th t).pl < 6 ∨ P.act t (a.th t).pl = 6 ∨ P.act t (a.th t).pl = 8 ∨ P.act t (a.th t).pl = 9 ∨ P.act t (a.th t).pl = 11) : xO jv t = nI (P.opd t (a.th t).pl) := by
  have h1 := hok.th t ht
  have hl := h1.lt (by omega)
  have h3 := (h.rp hC).opd t _ ht hl hc
  unfold xO
  rw [pO_eq h hP hok ht, (h.th t ht).1]
  rcases hs with hs | hs | hs
  · rw [if_pos (by rw [hs]; rfl), show pR 4 t (a.th t) = (a.th t).pl by unfold pR; simp [hs, show ¬ t = 4 by omega]]
    exact h3
  · rw [if_neg (by rw [hs]; decide), show pR 4 t (a.th t) = (a.th t).pl + 1 by unfold pR; simp [hs]]
    exact h3
  · rw [if_neg (by rw [hs]; decide), show pR 4 t (a.th t) = (a.th t).pl + 1 by unfold pR; simp [hs]]
    exact h3
theorem mmO_eq (h : RR jv0 lv0 jv lv 4 a) (hC : RP jv0 P) (hP : okPR P) (hok : okAS P a) (ht : t < 4) (hs : (a.th t).st = 0 ∨ (a.th t).st = 1 ∨ (a.th t).st = 2) (hc : P.act t (a.th t).pl < 6) : mmO jv t = P.opd t (a.th t).pl := by
  have ho := hP.opm t _ ht ((hok.th t ht).lt (by omega)) hc
  unfold mmO
  rw [xO_eq h hC hP hok ht hs (by omega), qC (by omega)]
  omega
theorem uO_eq (h : RR jv0 lv0 jv lv 4 a) (hC : RP jv0 P) (hP : okPR P) (hok : okAS P a) (ht : t < 4) (hs : (a.th t).st = 0) (hc : P.act t (a.th t).pl = 6 ∨ P.act t (a.th t).pl = 8 ∨ P.act t (a.th t).pl = 9) : uO jv t = P.opd t (a.th t).pl := by
  have ho := hP.opt t _ ht ((hok.th t ht).lt (by omega)) (by omega)
  unfold uO
  rw [xO_eq h hC hP hok ht (Or.inl hs) (by omega), qC (by omega)]
  omega
theorem szO_eq (h : RR jv0 lv0 jv lv 4 a) (hok : okAS P a) : szO jv t = (a.mo (mmO jv t)).q.length := by
  have hm : mmO jv t < 2 := Nat.mod_lt _ (by decide)
  have := hok.len hm
  unfold szO
  rw [(h.mo _ hm).2.2.1, qC (by omega)]
theorem vaO_eq (h : RR jv0 lv0 jv lv 4 a) (hok : okAS P a) (hq : 0 < (a.mo (mmO jv t)).q.length) : vaO jv t = (a.mo (mmO jv t)).q.getD 0 0 := by
  have hm : mmO jv t < 2 := Nat.mod_lt _ (by decide)
  have := (hok.q _ hm _ (getD_mem hq)).1
  unfold vaO
  have h1 := (h.mo _ hm).2.2.2 0 hq
  rw [Nat.add_zero] at h1
  rw [h1, qC (by omega)]
theorem vbO_eq (h : RR jv0 lv0 jv lv 4 a) (hok : okAS P a) (hq : 0 < (a.mo (mmO jv t)).q.length) : vbO jv t = (a.mo (mmO jv t)).q.getD ((a.mo (mmO jv t)).q.length - 1) 0 := by
  have hm : mmO jv t < 2 := Nat.mod_lt _ (by decide)
  have := (hok.q _ hm _ (getD_mem (j := (a.mo (mmO jv t)).q.length - 1) (by omega))).1
  unfold vbO
  rw [szO_eq h hok]
  have h1 := (h.mo _ hm).2.2.2 ((a.mo (mmO jv t)).q.length - 1) (by omega)
  rw [h1, qC (by omega)]
theorem k0O_eq (h : RR jv0 lv0 jv lv 4 a) (hok : okAS P a) (ht : t < 4) (hq : t ∈ (a.mo (mmO jv t)).q) : k0O jv t < (a.mo (mmO jv t)).q.length ∧ (a.mo (mmO jv t)).q.getD (k0O jv t) 0 = t ∧ ∀ k, k < k0O jv t → ¬ jv 15 (4 * mmO jv t + k) = nI t := by
  have hm : mmO jv t < 2 := Nat.mod_lt _ (by decide)
  have hl := hok.len hm
  obtain ⟨i, hi, he⟩ := List.mem_iff_getElem.1 hq
  have hM := (h.mo _ hm).2.2.2
  have he' : (a.mo (mmO jv t)).q.getD i 0 = t := by rw [List.getD_eq_getElem?_getD, List.getElem?_eq_getElem hi]; exact he
  have hb : ∀ j, j < i → ¬ jv 15 (4 * mmO jv t + j) = nI t := fun j hj q => by
    rw [hM j (by omega)] at q
    have h4 := (hok.q _ hm _ (getD_mem (show j < (a.mo (mmO jv t)).q.length by omega))).1
    have := (qE (by omega) (by omega)).1 q
    have := nodup_get (hok.nd _ hm) (show j < (a.mo (mmO jv t)).q.length by omega) hi (by rw [this, he'])
    omega
  have hii : jv 15 (4 * mmO jv t + i) = nI t := by rw [hM i hi, he']
  have hk : k0O jv t = i := by
    unfold k0O
    have : i = 0 ∨ i = 1 ∨ i = 2 ∨ i = 3 := by omega
    rcases this with q | q | q | q
    · subst q; exact if_pos hii
    · subst q; rw [if_neg (show ¬ jv 15 (4 * mmO jv t) = nI t from hb 0 (by omega)), if_pos hii]
    · subst q; rw [if_neg (show ¬ jv 15 (4 * mmO jv t) = nI t from hb 0 (by omega)), if_neg (hb 1 (by omega)), if_pos hii]
    · subst q; rw [if_neg (show ¬ jv 15 (4 * mmO jv t) = nI t from hb 0 (by omega)), if_neg (hb 1 (by omega)), if_neg (hb 2 (by omega))]
  rw [hk]
  exact ⟨hi, he', hb⟩
set_option maxHeartbeats 1000000 in
theorem RR.mon (h : RR jv0 lv0 jv lv t a) (hC : RP jv0 P) (hP : okPR P) (hok : okAS P a) {w o c va vb : Nat} (ht : t < 4) (hw4 : w < 4) (s0 : (a.th t).st = 0) (ho' : P.opd t (a.th t).pl = o) (hc' : P.act t (a.th t).pl = c) (ha : c < 6) (hm : ¬ aMay P a t w = 0) (hva : 0 < (a.mo o).q.length → va = (a.mo o).q.getD 0 0) (hvb : 0 < (a.mo o).q.length → vb = (a.mo o).q.getD ((a.mo o).q.length - 1) 0) : RR jv0 lv0 (if (m_oMon jv t o (nI c) (nI w) (a.mo o).q.length va vb) 5 t = 0 then m_oRun (m_oMon jv t o (nI c) (nI w) (a.mo o).q.length va vb) t else m_oMon jv t o (nI c) (nI w) (a.mo o).q.length va vb) (n_oMon jv lv t o (nI c) (nI w) (a.mo o).q.length va vb) 4 (aMon P a t o c w) := by
  have h1 := hok.th t ht
  have hl := h1.lt (by omega)
  have hT := h.th t ht
  have ho := hP.opm t _ ht hl (by omega)
  have hlen := hP.len t ht
  rw [ho'] at ho
  have hM := h.mo _ ho
  have how := hok.ow _ ho
  have hq4 := hok.len ho
  unfold aMay at hm
  rw [if_pos s0, ho', hc'] at hm
  unfold aMon
  obtain ⟨M, eM⟩ : ∃ M, M = m_oMon jv t o (nI c) (nI w) (a.mo o).q.length va vb := ⟨_, rfl⟩
  obtain ⟨N, eN⟩ : ∃ N, N = n_oMon jv lv t o (nI c) (nI w) (a.mo o).q.length va vb := ⟨_, rfl⟩
  rw [← eM, ← eN]
  unfold m_oMon at eM
  unfold n_oMon at eN
  have L : ∀ n, n < 100 → ((nI c = nI n) = (c = n)) := fun n hn => nlit (by omega) (by omega)
  have e12 : ((jv 12 o = nI t) = ((a.mo o).ow = t + 1)) := by rw [hM.1]; exact propext (qmt (by omega) (by omega))
  have e4 : ((4 ≤ nI c) = (4 ≤ c)) := propext (qLe (by decide) (by omega))
  simp only [q1, show (4 : Int32) = nI 4 from rfl] at eM eN e4
  have L0 : ((nI c = 0) = (c = 0)) := L 0 (by decide)
  simp only [e12, e4, L0, L 1 (by decide), L 4 (by decide)] at eM eN
  by_cases c0 : c = 0
  · simp only [if_pos c0] at eM eN ⊢
    have e1 : up2 jv 12 o (nI t) 13 o + nI 1 = nI ((a.mo o).de + 1) := by rw [u2n (by decide), hM.2.1, qA]
    rw [e1] at eM
    subst eM eN
    have h2 := (h.ow ho (t + 1)).de ho ((a.mo o).de + 1)
    rw [sM_sM, sM_mo, qS, Int32.add_sub_cancel] at h2
    exact h2.fin hP hC ht s0 hl
  simp only [if_neg c0] at eM eN ⊢
  by_cases hw : (a.mo o).ow = t + 1
  · simp only [if_pos hw] at eM eN ⊢
    have hde := hok.de o t ho ht hw
    by_cases c1 : c = 1
    · simp only [if_pos c1] at eM eN ⊢
      have e1 : jv 13 o - nI 1 = nI ((a.mo o).de - 1) := by rw [hM.2.1]; exact qpred hde.1
      simp only [e1] at eM eN
      have e2 : (up2 jv 13 o (nI ((a.mo o).de - 1)) 13 o = 0) = ((a.mo o).de - 1 = 0) := by rw [u2s]; simp only [upd, if_true]; exact nlit (n := 0) (by omega) (by decide)
      simp only [e2] at eM eN
      have h2 := h.de ho ((a.mo o).de - 1)
      by_cases hd : (a.mo o).de - 1 = 0
      · simp only [if_pos hd] at eM eN ⊢
        subst eM eN
        have h3 := h2.ow ho 0
        rw [sM_sM, sM_mo] at h3
        rw [hd] at h3
        have := h3.fin hP hC ht s0 hl
        rw [hd]
        exact this
      · simp only [if_neg hd] at eM eN ⊢
        subst eM eN
        exact h2.fin hP hC ht s0 hl
    simp only [if_neg c1] at eM eN ⊢
    by_cases c4 : c = 4
    · simp only [if_pos (show 4 ≤ c by omega), if_pos c4] at eM eN ⊢
      have e5 : (nI w ≤ 0) = (w = 0) := propext (by rw [q0, qLe (by omega) (by decide)]; omega)
      have e6 : (nI w = nI 1) = (w = 1) := nlit (by omega) (by decide)
      simp only [e5, e6] at eM eN
      rw [if_pos c4, if_pos hw] at hm
      by_cases hw0 : w = 0
      · simp only [if_pos hw0] at eM eN ⊢; subst eM eN; exact h.fin hP hC ht s0 hl
      · simp only [if_neg hw0] at eM eN ⊢
        have hq : 0 < (a.mo o).q.length := by
          by_cases hq : (a.mo o).q.length = 0
          · rw [if_pos hq, if_neg hw0] at hm; exact absurd rfl hm
          · omega
        have key : ∀ v, v ∈ (a.mo o).q → (aNtf a o v).th t = a.th t := fun v hv => ntf_keep (fun e => by have := (hok.q o ho v hv).2.1; rw [← e] at this; omega)
        by_cases hw1 : w = 1
        · simp only [if_pos hw1] at eM eN ⊢
          subst eM eN
          rw [hva hq, headD_getD]
          have hk := key _ (getD_mem hq)
          exact (h.ntf ho hok hq rfl).fin hP hC ht (by rw [hk]; exact s0) (by rw [hk]; exact hl)
        · simp only [if_neg hw1] at eM eN ⊢
          subst eM eN
          rw [hvb hq, lastD_getD hq]
          have hk := key _ (getD_mem (j := (a.mo o).q.length - 1) (by omega))
          exact (h.ntf ho hok (k := (a.mo o).q.length - 1) (by omega) rfl).fin hP hC ht (by rw [hk]; exact s0) (by rw [hk]; exact hl)
    simp only [if_neg c4] at eM eN ⊢
    by_cases c5 : c = 5
    · simp only [if_pos (show 4 ≤ c by omega)] at eM eN
      rw [if_pos c5]
      subst eM eN
      have hk := ntA_keep (t := t) ho _ a hok rfl (by omega)
      exact (RR.ntA ho _ jv lv a h hok rfl).fin hP hC ht (by rw [hk]; exact s0) (by rw [hk]; exact hl)
    simp only [if_neg (show ¬ 4 ≤ c by omega)] at eM eN
    rw [if_neg c5]
    subst eM eN
    have hfi := h1.fi
    by_cases hi : (a.th t).fi = 0
    · rw [if_pos hi]
      exact (h.into ho ht hok (hok.len3 ho ht (by omega)) hi).fin2 ht (by rw [sM_th, sT_th]; show ¬ 1 = 0; decide) (by rw [sM_th, sT_th]; show 1 ≤ 4; decide)
    · rw [if_neg hi]
      unfold m_oWait n_oWait
      have e7 : ¬ jv 9 t = 0 := by rw [hT.2.2.2.2.2.1, q0, nlit (by omega) (by decide)]; exact hi
      simp only [if_neg e7]
      have h2 := (h.fi ht 0).put ht 1 (by decide) (up2 jv 9 t 0)
      rw [sT_sT, sT_th] at h2
      rw [aGo_sT]
      exact h2.fin hP hC ht (by rw [sT_th]; exact s0) (by rw [sT_th]; exact hl)
  · simp only [if_neg hw] at eM eN ⊢
    subst eM eN
    rw [aGo_sT]
    exact (h.put ht 0 (by decide) jv).fin hP hC ht (by rw [sT_th]; exact s0) (by rw [sT_th]; exact hl)
end
