theorem u2v {f : Nat → Nat → Int32} {c k : Nat} {v : Int32} : up2 f c k v c k = v := by simp [up2, upd]
theorem u2w {f : Nat → Nat → Int32} {c k j : Nat} {v : Int32} (h : ¬ j = k) : up2 f c k v c j = f c j := by simp [up2, upd, h]
theorem goR_sim {x : RM} {P : PR} {s : SS} {k : Nat} (h : SRr x P s) (hP : okPR P) (hg : GS P s k) (hk : k < s.N) (hk3 : k ≤ 3000) : SRr (goR k x) P (goA P k s) ∧ RF x (goR k x) ∧ okGo k x := by
  have hh16 := (vA_le (P := P) (b := s.σ k) (y := (s.N, s.σ)) 16).2.2
  have hb := hg.ok k hk
  have hL := hg.L
  have hfi := hg.fin
  have hms := hg.mst
  have sim := gI_sim h hP hg.N hg.ok hg.ne hk
  obtain ⟨h1, h2, h3, h4, _⟩ := sim 16 (Nat.le_refl _)
  have h5 := SRr.rr (y := unR k (gI k x 16).1) h1 h4
  have h6 := h3.trans (RR.rf (y := unR k (gI k x 16).1) h4)
  obtain ⟨f1, f2, f3⟩ := fiR_sim (x := unR k (gI k x 16).1) h5 hP h4 hb hg.srt (by show s.L ≤ 3000; omega)
  have hz : (nI (gI k x 16).2 = 0) = ((vA P (s.σ k) (s.N, s.σ) 16).2 = 0) := by rw [h2]; exact nlit (n := 0) (by omega) (by decide)
  refine ⟨?_, ?_, hk3, fun c hc => (sim c (by omega)).2.2.2.2 hc, fun _ => f3⟩
  · unfold goR goA
    have hG : SRr (gF k x) P (if (vA P (s.σ k) (s.N, s.σ) 16).2 = 0 then finA (sV P k s 16) (s.σ k) else sV P k s 16) := by
      unfold gF
      simp only [hz]
      by_cases q : (vA P (s.σ k) (s.N, s.σ) 16).2 = 0
      · rw [if_pos q, if_pos q]; exact f1
      · rw [if_neg q, if_neg q]; exact h5
    have hm22 : (gF k x).1 0 22 = nI s.mst := by
      rw [hG.mst]
      split <;> rfl
    rw [hm22, h2]
    simp only [qLe (a := (vA P (s.σ k) (s.N, s.σ) 16).2) (b := s.mst) (by omega) (by omega)]
    have B : SRr (if (vA P (s.σ k) (s.N, s.σ) 16).2 ≤ s.mst then gF k x else (up2 (gF k x).1 0 22 (nI (vA P (s.σ k) (s.N, s.σ) 16).2), (gF k x).2)) P (SS.mk ((if (vA P (s.σ k) (s.N, s.σ) 16).2 = 0 then finA (sV P k s 16) (s.σ k) else sV P k s 16).N) ((if (vA P (s.σ k) (s.N, s.σ) 16).2 = 0 then finA (sV P k s 16) (s.σ k) else sV P k s 16).σ) ((if (vA P (s.σ k) (s.N, s.σ) 16).2 = 0 then finA (sV P k s 16) (s.σ k) else sV P k s 16).f) ((if (vA P (s.σ k) (s.N, s.σ) 16).2 = 0 then finA (sV P k s 16) (s.σ k) else sV P k s 16).L) ((if (vA P (s.σ k) (s.N, s.σ) 16).2 = 0 then finA (sV P k s 16) (s.σ k) else sV P k s 16).fin) ((if (vA P (s.σ k) (s.N, s.σ) 16).2 = 0 then finA (sV P k s 16) (s.σ k) else sV P k s 16).all) (if s.mst < (vA P (s.σ k) (s.N, s.σ) 16).2 then (vA P (s.σ k) (s.N, s.σ) 16).2 else s.mst) ((if (vA P (s.σ k) (s.N, s.σ) 16).2 = 0 then finA (sV P k s 16) (s.σ k) else sV P k s 16).bl)) := by
      generalize hS : (if (vA P (s.σ k) (s.N, s.σ) 16).2 = 0 then finA (sV P k s 16) (s.σ k) else sV P k s 16) = S at *
      have hSm : S.mst = s.mst := by rw [← hS]; split <;> rfl
      by_cases q : (vA P (s.σ k) (s.N, s.σ) 16).2 ≤ s.mst
      · rw [if_pos q, if_neg (by omega), ← hSm]; exact hG
      · rw [if_neg q, if_pos (by omega)]
        have Z : ∀ j, ¬ j = 22 → up2 (gF k x).1 0 22 (nI (vA P (s.σ k) (s.N, s.σ) 16).2) 0 j = (gF k x).1 0 j := fun j hj => by rw [u2s]; simp only [upd, if_neg hj]
        have Y : ∀ c, ¬ c = 0 → up2 (gF k x).1 0 22 (nI (vA P (s.σ k) (s.N, s.σ) 16).2) c = (gF k x).1 c := fun c hc => u2n hc
        exact ⟨(Z 19 (by decide)).trans hG.n, hG.row, (Z 20 (by decide)).trans hG.fin, (Z 21 (by decide)).trans hG.all, by show up2 (gF k x).1 0 22 (nI (vA P (s.σ k) (s.N, s.σ) 16).2) 0 22 = nI (vA P (s.σ k) (s.N, s.σ) 16).2; exact u2v, fun t ht => (congrFun (Y 19 (by decide)) t).trans (hG.bl t ht), (Z 23 (by decide)).trans hG.len, hG.out, ⟨fun t ht => (congrFun (Y 3 (by decide)) _).trans (hG.rp.len t ht), fun t p ht hp => (congrFun (Y 1 (by decide)) _).trans (hG.rp.act t p ht hp), fun t p ht hp hh => (congrFun (Y 2 (by decide)) _).trans (hG.rp.opd t p ht hp hh), (Z 0 (by decide)).trans hG.rp.loose⟩⟩
    by_cases q : (vA P (s.σ k) (s.N, s.σ) 16).2 = 0
    · rw [if_pos q] at B ⊢; exact B
    · rw [if_neg q] at B ⊢; exact B
  · have hGf : RF x (gF k x) := by
      unfold gF
      split
      · exact h6.trans f2
      · exact h6
    unfold goR
    split
    · exact hGf
    · exact hGf.trans ⟨fun c c1 _ _ => u2n c1, fun j hj => by show up2 (gF k x).1 0 22 (nI (gI k x 16).2) 0 j = (gF k x).1 0 j; exact u2w (show ¬ j = 22 by omega), fun _ _ _ _ => rfl⟩
theorem first_eq {jv : Nat → Nat → Int32} {lv : Nat → Nat → Int64} {P : PR} (hP : okPR P) (hC : RP jv P) : RR jv lv (m_oFirst jv) (n_oFirst jv lv) 4 (aBeg P) := by
  have hl := hP.len
  have E : ∀ t, t < 4 → (if jv 3 t = 0 then (4 : Int32) else 0) = nI (if P.len t = 0 then 4 else 0) := fun t ht => by
    have := hl t ht
    have e : (jv 3 t = 0) = (P.len t = 0) := by rw [hC.len t ht]; exact nlit (n := 0) (by omega) (by decide)
    simp only [e]
    split <;> rfl
  have F : ∀ c t, (c < 4 ∨ 16 ≤ c) → m_oFirst jv c t = jv c t := fun c t hc => by
    unfold m_oFirst
    simp only [up2, show ¬ c = 4 by omega, show ¬ c = 5 by omega, show ¬ c = 6 by omega, show ¬ c = 7 by omega, show ¬ c = 9 by omega, show ¬ c = 10 by omega, show ¬ c = 11 by omega, show ¬ c = 12 by omega, show ¬ c = 13 by omega, show ¬ c = 14 by omega, if_false]
  refine ⟨fun t ht => ?_, fun m hm => ?_, fun c hc => funext fun t => F c t hc, fun c hc => ?_⟩
  · have : t = 0 ∨ t = 1 ∨ t = 2 ∨ t = 3 := by omega
    unfold RT
    have e := E t ht
    have hst : ((aBeg P).th t).st = if P.len t = 0 then 4 else 0 := rfl
    have hpR : pR 4 t ((aBeg P).th t) = 0 := by
      have hne : ¬ (((aBeg P).th t).st = 1 ∨ ((aBeg P).th t).st = 2 ∨ ((aBeg P).th t).st = 3 ∨ t = 4) := by rw [hst]; split <;> omega
      unfold pR
      rw [if_neg hne]
      rfl
    rw [hst, ← e, hpR]
    rcases this with q | q | q | q <;> subst q <;> refine ⟨?_, ?_, ?_, ?_, ?_, ?_, ?_, ?_⟩ <;> first | rfl | (unfold m_oFirst; simp [up2, upd]; done) | (unfold n_oFirst; simp [up2L, vp_updL]; rfl)
  · have : m = 0 ∨ m = 1 := by omega
    rcases this with q | q <;> subst q <;> refine ⟨?_, ?_, ?_, fun j hj => absurd hj (Nat.not_lt_zero _)⟩ <;> (unfold m_oFirst; simp [up2, upd, aBeg]) <;> rfl
  · unfold n_oFirst
    rw [u2Ln hc, u2Ln hc, u2Ln hc, u2Ln hc]
