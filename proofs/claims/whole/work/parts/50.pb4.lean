section
variable {jv0 jv : Nat → Nat → Int32} {lv0 lv : Nat → Nat → Int64} {e t : Nat} {a : AS} {P : PR}
theorem RR.broken (h : RR jv0 lv0 jv lv e a) (hok : okAS P a) (ht : t < 4) (x : Nat) (hx : x ≤ 1) : RR jv0 lv0 (m_oBroken jv t (nI x)) (n_oBroken jv lv t (nI x)) e (sT a t (if (a.th t).fi = 0 then (if x = 0 then (TH.mk ((a.th t).st) ((a.th t).pl) ((a.th t).kp) 0 ((a.th t).fp) ((a.th t).fs) ((a.th t).n) ((a.th t).r)) else (TH.mk ((aPut (a.th t) 5).st) ((aPut (a.th t) 5).pl) ((aPut (a.th t) 5).kp) 0 ((aPut (a.th t) 5).fp) ((aPut (a.th t) 5).fs) ((aPut (a.th t) 5).n) ((aPut (a.th t) 5).r))) else (TH.mk ((aPut (a.th t) (if x = 0 then 1 else 4)).st) ((aPut (a.th t) (if x = 0 then 1 else 4)).pl) ((aPut (a.th t) (if x = 0 then 1 else 4)).kp) 0 ((aPut (a.th t) (if x = 0 then 1 else 4)).fp) ((aPut (a.th t) (if x = 0 then 1 else 4)).fs) ((aPut (a.th t) (if x = 0 then 1 else 4)).n) ((aPut (a.th t) (if x = 0 then 1 else 4)).r)))) := by
  have h1 := hok.th t ht
  have hfi := h1.fi
  have hT := h.th t ht
  unfold m_oBroken n_oBroken
  have e1 : (jv 9 t = 0) = ((a.th t).fi = 0) := by rw [hT.2.2.2.2.2.1]; exact nlit (n := 0) (by omega) (by decide)
  have e2 : (nI x = 0) = (x = 0) := nlit (n := 0) (by omega) (by decide)
  simp only [e1, e2]
  by_cases hi : (a.th t).fi = 0
  · simp only [if_pos hi]
    by_cases hx0 : x = 0
    · simp only [if_pos hx0]; exact h.fi ht 0
    · simp only [if_neg hx0]
      have h2 := (h.put ht 5 (by decide) jv).fi ht 0
      rw [sT_sT, sT_th] at h2
      exact h2
  · simp only [if_neg hi]
    have e3 : (if x = 0 then (1 : Int32) else 4) = nI (if x = 0 then 1 else 4) := by split <;> rfl
    rw [e3]
    have h2 := (h.put ht (if x = 0 then 1 else 4) (by split <;> omega) jv).fi ht 0
    rw [sT_sT, sT_th] at h2
    exact h2
theorem RR.unp (h : RR jv0 lv0 jv lv t a) (hC : RP jv0 P) (hP : okPR P) (hok : okAS P a) {u : Nat} (hu : u < 4) (hs : (a.th t).st = 0) : RR jv0 lv0 (m_oUnpark jv u) lv t (aUnp P a u) := by
  have h1 := hok.th u hu
  have hst := h1.st
  have hT := h.th u hu
  unfold m_oUnpark aUnp
  have e1 : (jv 5 u = 3) = ((a.th u).st = 3) := by rw [hT.1]; exact nlit (n := 3) (by omega) (by decide)
  have e2 : (jv 5 u = 4) = ((a.th u).st = 4) := by rw [hT.1]; exact nlit (n := 4) (by omega) (by decide)
  simp only [e1, e2]
  by_cases h3 : (a.th u).st = 3
  · rw [if_pos h3, if_pos h3]
    have hne : ¬ u = t := fun q => by rw [q] at h3; omega
    exact h.run hP (h.rp hC) hu (h1.lt (by omega)) (by unfold pR; simp [h3]) hne (fun v _ _ => Iff.rfl)
  rw [if_neg h3, if_neg h3]
  by_cases h4 : (a.th u).st = 4
  · rw [if_pos h4, if_pos h4]; exact h
  · rw [if_neg h4, if_neg h4]; exact h.fp hu 1
set_option maxHeartbeats 1000000 in
theorem RR.oth (h : RR jv0 lv0 jv lv t a) (hC : RP jv0 P) (hP : okPR P) (hok : okAS P a) {u o c : Nat} {x : Int32} (ht : t < 4) (s0 : (a.th t).st = 0) (ho' : P.opd t (a.th t).pl = o) (hc' : P.act t (a.th t).pl = c) (ha : ¬ c < 6) (hu : c = 6 ∨ c = 8 ∨ c = 9 → u = o) (hx : c = 11 → x = nI o) : RR jv0 lv0 (if (m_oOther jv t u (nI c) x) 5 t = 0 then m_oRun (m_oOther jv t u (nI c) x) t else m_oOther jv t u (nI c) x) (n_oOther jv lv t u (nI c) x) 4 (aOth P a t o c) := by
  have h1 := hok.th t ht
  have hl := h1.lt (by omega)
  have hT := h.th t ht
  have hop4 := hP.opt t _ ht hl
  have hc12 := hP.act t _ ht hl
  rw [hc'] at hop4 hc12
  rw [ho'] at hop4
  have hfi := h1.fi
  have hfp := h1.fp
  unfold aOth
  obtain ⟨M, eM⟩ : ∃ M, M = m_oOther jv t u (nI c) x := ⟨_, rfl⟩
  obtain ⟨N, eN⟩ : ∃ N, N = n_oOther jv lv t u (nI c) x := ⟨_, rfl⟩
  rw [← eM, ← eN]
  unfold m_oOther at eM
  unfold n_oOther at eN
  have L : ∀ n, n < 100 → ((nI c = nI n) = (c = n)) := fun n hn => nlit (by omega) (by omega)
  have Z : ((jv 9 t = 0) = ((a.th t).fi = 0)) := by rw [hT.2.2.2.2.2.1]; exact nlit (n := 0) (by omega) (by decide)
  have Z2 : ((jv 10 t = 0) = ((a.th t).fp = 0)) := by rw [hT.2.2.2.2.2.2.1]; exact nlit (n := 0) (by omega) (by decide)
  have L6 : (nI c = 6) = (c = 6) := L 6 (by decide)
  have L7 : (nI c = 7) = (c = 7) := L 7 (by decide)
  have L8 : (nI c = 8) = (c = 8) := L 8 (by decide)
  have L9 : (nI c = 9) = (c = 9) := L 9 (by decide)
  have L10 : (nI c = 10) = (c = 10) := L 10 (by decide)
  have L11 : (nI c = 11) = (c = 11) := L 11 (by decide)
  have L12 : (nI c = 12) = (c = 12) := L 12 (by decide)
  simp only [L6, L7, L8, L9, L10, L11, L12, Z, Z2] at eM eN
  by_cases c6 : c = 6
  · simp only [if_pos c6] at eM eN ⊢
    rw [hu (by omega)] at eM eN
    have ho := hop4 (by omega)
    have hst := (hok.th o ho).st
    have hO := h.th o ho
    have e4 : (jv 5 o = 4) = ((a.th o).st = 4) := by rw [hO.1]; exact nlit (n := 4) (by omega) (by decide)
    simp only [e4] at eM eN
    unfold aInt
    by_cases h4 : (a.th o).st = 4
    · simp only [if_pos h4] at eM eN ⊢
      subst eM eN
      exact h.fin hP hC ht s0 hl
    · simp only [if_neg h4] at eM eN ⊢
      subst eM eN
      have key : (sT a o (TH.mk ((a.th o).st) ((a.th o).pl) ((a.th o).kp) 1 ((a.th o).fp) ((a.th o).fs) ((a.th o).n) ((a.th o).r))).th t = if t = o then (TH.mk ((a.th t).st) ((a.th t).pl) ((a.th t).kp) 1 ((a.th t).fp) ((a.th t).fs) ((a.th t).n) ((a.th t).r)) else a.th t := by
        show (if t = o then _ else a.th t) = _
        by_cases q : t = o
        · subst q; rfl
        · rw [if_neg q, if_neg q]
      exact (h.fi ho 1).fin hP hC ht (by rw [key]; split <;> exact s0) (by rw [key]; split <;> exact hl)
  simp only [if_neg c6] at eM eN ⊢
  by_cases c7 : c = 7
  · simp only [if_pos c7] at eM eN ⊢
    by_cases hp : (a.th t).fp = 0
    · simp only [if_pos hp] at eM eN ⊢
      by_cases hi : (a.th t).fi = 0
      · simp only [if_pos hi] at eM eN ⊢
        subst eM eN
        have h2 := (h.st ht 3 (by unfold pR; simp)).fp ht 0
        rw [sT_sT, sT_th] at h2
        have e5 : ((TH.mk (((TH.mk 3 ((a.th t).pl) ((a.th t).kp) ((a.th t).fi) ((a.th t).fp) ((a.th t).fs) ((a.th t).n) ((a.th t).r)) : TH).st) (((TH.mk 3 ((a.th t).pl) ((a.th t).kp) ((a.th t).fi) ((a.th t).fp) ((a.th t).fs) ((a.th t).n) ((a.th t).r)) : TH).pl) (((TH.mk 3 ((a.th t).pl) ((a.th t).kp) ((a.th t).fi) ((a.th t).fp) ((a.th t).fs) ((a.th t).n) ((a.th t).r)) : TH).kp) (((TH.mk 3 ((a.th t).pl) ((a.th t).kp) ((a.th t).fi) ((a.th t).fp) ((a.th t).fs) ((a.th t).n) ((a.th t).r)) : TH).fi) 0 (((TH.mk 3 ((a.th t).pl) ((a.th t).kp) ((a.th t).fi) ((a.th t).fp) ((a.th t).fs) ((a.th t).n) ((a.th t).r)) : TH).fs) (((TH.mk 3 ((a.th t).pl) ((a.th t).kp) ((a.th t).fi) ((a.th t).fp) ((a.th t).fs) ((a.th t).n) ((a.th t).r)) : TH).n) (((TH.mk 3 ((a.th t).pl) ((a.th t).kp) ((a.th t).fi) ((a.th t).fp) ((a.th t).fs) ((a.th t).n) ((a.th t).r)) : TH).r)) : TH) = (TH.mk 3 ((a.th t).pl) ((a.th t).kp) ((a.th t).fi) ((a.th t).fp) ((a.th t).fs) ((a.th t).n) ((a.th t).r)) := by rw [← hp]
        rw [e5] at h2
        exact (h2.dim (by rw [sT_th]; exact Or.inr (Or.inr rfl))).fin2 ht (by rw [sT_th]; show ¬ 3 = 0; decide) (by rw [sT_th]; show 3 ≤ 4; decide)
      · simp only [if_neg hi] at eM eN ⊢
        subst eM eN
        rw [aGo_sT]
        exact (h.fp ht 0).fin hP hC ht (by rw [sT_th]; exact s0) (by rw [sT_th]; exact hl)
    · simp only [if_neg hp] at eM eN ⊢
      subst eM eN
      rw [aGo_sT]
      exact (h.fp ht 0).fin hP hC ht (by rw [sT_th]; exact s0) (by rw [sT_th]; exact hl)
  simp only [if_neg c7] at eM eN ⊢
  by_cases c8 : c = 8
  · simp only [if_pos c8] at eM eN ⊢
    rw [hu (by omega)] at eM
    subst eM eN
    have h2 := h.unp hC hP hok (hop4 (by omega)) s0
    have hk : ((aUnp P a o).th t).st = 0 := by
      unfold aUnp
      split
      · rename_i q; rw [aGo, sT_ne _ _ (fun q2 => by rw [← q2] at q; omega)]; exact s0
      · split
        · exact s0
        · show (if t = o then _ else a.th t).st = 0
          split
          · rename_i q; subst q; exact s0
          · exact s0
    exact h2.fin hP hC ht hk (by rw [aUnp_pl s0]; exact hl)
  simp only [if_neg c8] at eM eN ⊢
  have B : RR jv0 lv0 (if (m_oBroken jv t 0) 5 t = 0 then m_oRun (m_oBroken jv t 0) t else m_oBroken jv t 0) (n_oBroken jv lv t 0) 4 (if (a.th t).fi = 0 then sT a t (aRun P t (a.th t)) else sT a t (aRun P t (aPut (TH.mk ((a.th t).st) ((a.th t).pl) ((a.th t).kp) 0 ((a.th t).fp) ((a.th t).fs) ((a.th t).n) ((a.th t).r)) 1))) := by
    have h2 := h.broken hok ht 0 (by decide)
    by_cases hi : (a.th t).fi = 0
    · rw [if_pos hi, if_pos rfl] at h2
      rw [if_pos hi, aGo_sT]
      have e5 : ((TH.mk ((a.th t).st) ((a.th t).pl) ((a.th t).kp) 0 ((a.th t).fp) ((a.th t).fs) ((a.th t).n) ((a.th t).r)) : TH) = a.th t := by rw [← hi]
      rw [e5] at h2
      exact h2.fin hP hC ht (by rw [sT_th]; exact s0) (by rw [sT_th]; exact hl)
    · rw [if_neg hi, if_pos rfl] at h2
      rw [if_neg hi, aGo_sT]
      exact h2.fin hP hC ht (by rw [sT_th]; exact s0) (by rw [sT_th]; exact hl)
  by_cases c9 : c = 9
  · rw [if_neg (show ¬ c = 11 by omega), if_neg (show ¬ c = 12 by omega)]
    simp only [if_pos c9] at eM eN
    subst eM eN
    exact B
  simp only [if_neg c9] at eM eN
  by_cases c10 : c = 10
  · rw [if_neg (show ¬ c = 11 by omega), if_neg (show ¬ c = 12 by omega)]
    simp only [if_pos c10] at eM eN
    subst eM eN
    exact B
  simp only [if_neg c10] at eM eN
  by_cases c11 : c = 11
  · simp only [if_pos c11] at eM eN ⊢
    rw [hx c11, show (8 : Int32) = nI 8 from rfl, ← qA] at eM eN
    subst eM eN
    rw [aGo_sT]
    exact (h.put ht (8 + o) (by have := hop4 (by omega); omega) jv).fin hP hC ht (by rw [sT_th]; exact s0) (by rw [sT_th]; exact hl)
  simp only [if_neg c11] at eM eN ⊢
  have c12 : c = 12 := by omega
  simp only [if_pos c12] at eM eN ⊢
  subst eM eN
  have h2 := h.broken hok ht 1 (by decide)
  rw [if_neg (show ¬ 1 = 0 by decide), if_neg (show ¬ 1 = 0 by decide)] at h2
  have e6 : (if (a.th t).fi = 0 then ((TH.mk ((aPut (a.th t) 5).st) ((aPut (a.th t) 5).pl) ((aPut (a.th t) 5).kp) 0 ((aPut (a.th t) 5).fp) ((aPut (a.th t) 5).fs) ((aPut (a.th t) 5).n) ((aPut (a.th t) 5).r)) : TH) else (TH.mk ((aPut (a.th t) 4).st) ((aPut (a.th t) 4).pl) ((aPut (a.th t) 4).kp) 0 ((aPut (a.th t) 4).fp) ((aPut (a.th t) 4).fs) ((aPut (a.th t) 4).n) ((aPut (a.th t) 4).r))) = aPut (TH.mk ((a.th t).st) ((a.th t).pl) ((a.th t).kp) 0 ((a.th t).fp) ((a.th t).fs) ((a.th t).n) ((a.th t).r)) (if (a.th t).fi = 0 then 5 else 4) := by split <;> rfl
  rw [e6] at h2
  rw [aGo_sT]
  exact h2.fin hP hC ht (by rw [sT_th]; exact s0) (by rw [sT_th]; exact hl)
end
