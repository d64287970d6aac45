section
variable {jv0 jv : Nat → Nat → Int32} {lv0 lv : Nat → Nat → Int64} {e t : Nat} {a : AS} {P : PR}
theorem ifsame {α : Type} (p : Prop) [Decidable p] (x : α) : (if p then x else x) = x := by split <;> rfl
set_option maxHeartbeats 1000000 in
theorem RR.per (h : RR jv0 lv0 jv lv 4 a) (hC : RP jv0 P) (hP : okPR P) (hok : okAS P a) {w : Nat} (ht : t < 4) (hw4 : w < 4) (hm : ¬ aMay P a t w = 0) : RR jv0 lv0 (perO jv t (nI w)) (perL jv lv t (nI w)) 4 (aTak P a t w) := by
  have h1 := hok.th t ht
  have hst := h1.st
  have hT := h.th t ht
  have hp := pO_eq h hP hok ht
  unfold perO perL aTak
  obtain ⟨M, eM⟩ : ∃ M, M = m_oPerf jv t (mmO jv t) (uO jv t) (pO jv t) (nI w) (szO jv t) (vaO jv t) (vbO jv t) (k0O jv t) := ⟨_, rfl⟩
  obtain ⟨N, eN⟩ : ∃ N, N = n_oPerf jv lv t (mmO jv t) (uO jv t) (pO jv t) (nI w) (szO jv t) (vaO jv t) (vbO jv t) (k0O jv t) := ⟨_, rfl⟩
  rw [← eM, ← eN]
  unfold m_oPerf at eM
  unfold n_oPerf at eN
  have L : ∀ n, n < 100 → ((jv 5 t = nI n) = ((a.th t).st = n)) := fun n hn => by rw [hT.1]; exact nlit (by omega) (by omega)
  have L0 : (jv 5 t = 0) = ((a.th t).st = 0) := L 0 (by decide)
  have L2 : (jv 5 t = 2) = ((a.th t).st = 2) := L 2 (by decide)
  have L3 : (jv 5 t = 3) = ((a.th t).st = 3) := L 3 (by decide)
  have W1 : (nI w = 1) = (w = 1) := nlit (n := 1) (by omega) (by decide)
  have W2 : (nI w = 2) = (w = 2) := nlit (n := 2) (by omega) (by decide)
  have W3 : (nI w = 3) = (w = 3) := nlit (n := 3) (by omega) (by decide)
  simp only [L0, L2, L3, W1, W2, W3] at eM eN
  by_cases s0 : (a.th t).st = 0
  · simp only [if_pos s0] at eM eN ⊢
    have hl := h1.lt (by omega)
    have hc12 := hP.act t _ ht hl
    have hpp : pO jv t = (a.th t).pl := by rw [hp]; unfold pR; simp [s0, show ¬ t = 4 by omega]
    have hact : r_oAction jv t (pO jv t) = nI (P.act t (a.th t).pl) := by rw [hpp]; exact (h.rp hC).act t _ ht hl
    unfold m_oDo at eM
    unfold n_oDo at eN
    have e6 : (6 ≤ nI (P.act t (a.th t).pl)) = (6 ≤ P.act t (a.th t).pl) := propext (qLe (a := 6) (by decide) (by omega))
    simp only [hact, e6, ifsame] at eM eN
    have hmid := h.mid ht
    rw [← hpp] at hmid
    by_cases ha : P.act t (a.th t).pl < 6
    · simp only [if_neg (show ¬ 6 ≤ P.act t (a.th t).pl by omega)] at eM eN
      rw [if_pos ha]
      have hmm := mmO_eq h hC hP hok ht (Or.inl s0) ha
      have hsz : szO jv t = (a.mo (P.opd t (a.th t).pl)).q.length := by rw [szO_eq h hok, hmm]
      rw [hmm, hsz] at eN
      simp only [hmm, hsz] at eM
      subst eM eN
      exact hmid.mon hC hP hok ht hw4 s0 rfl rfl ha hm (fun hq => by rw [vaO_eq h hok (by rw [hmm]; exact hq), hmm]) (fun hq => by rw [vbO_eq h hok (by rw [hmm]; exact hq), hmm])
    · simp only [if_pos (show 6 ≤ P.act t (a.th t).pl by omega)] at eM eN
      rw [if_neg ha]
      subst eM eN
      exact hmid.oth hC hP hok ht s0 rfl rfl ha (fun hc => uO_eq h hC hP hok ht s0 hc) (fun hc => by rw [hpp]; exact (h.rp hC).opd t _ ht hl (by omega))
  simp only [if_neg s0] at eM eN ⊢
  by_cases s2 : (a.th t).st = 2
  · simp only [if_pos s2] at eM eN
    rw [if_neg (show ¬ (a.th t).st = 1 by omega), if_pos s2]
    have hk := h1.kp1 (Or.inr s2)
    have hl := h1.lt (by omega)
    have hmm := mmO_eq h hC hP hok ht (Or.inr (Or.inr s2)) (by omega)
    have ho := hok.opm hP ht (Or.inr s2)
    rw [hmm] at eM
    have e1 : up2 jv 12 (P.opd t (a.th t).pl) (nI t) 6 t = nI (a.th t).kp := by rw [u2n (by decide)]; exact hT.2.2.1
    rw [e1] at eM
    subst eM eN
    have h2 := ((h.ow ho (t + 1)).de ho (a.th t).kp).kp ht 0
    rw [sM_sM, sM_mo, qS, Int32.add_sub_cancel] at h2
    rw [aGo_sT]
    exact h2.run hP (h2.rp hC) ht (by rw [sT_th]; exact hl) (by rw [sT_th]; unfold pR; simp [sM_th, s2]) (by omega) (fun v _ _ => Iff.rfl)
  simp only [if_neg s2] at eM eN ⊢
  by_cases s3 : (a.th t).st = 3
  · simp only [if_pos s3, ifsame] at eM eN
    rw [if_neg (show ¬ (a.th t).st = 1 by omega), if_pos s3]
    have hl := h1.lt (by omega)
    by_cases w3 : w = 3
    · simp only [if_pos w3] at eM ⊢
      subst eM eN
      rw [aGo_sT]
      have h2 := h.fs ht 1
      exact h2.run hP (h2.rp hC) ht (by rw [sT_th]; exact hl) (by rw [sT_th]; unfold pR; simp [s3]) (by omega) (fun v _ _ => Iff.rfl)
    · simp only [if_neg w3] at eM ⊢
      subst eM eN
      exact h.run hP (h.rp hC) ht hl (by unfold pR; simp [s3]) (by omega) (fun v _ _ => Iff.rfl)
  simp only [if_neg s3] at eM eN ⊢
  have s1 : (a.th t).st = 1 := by
    by_cases s1 : (a.th t).st = 1
    · exact s1
    · exact absurd (by unfold aMay; rw [if_neg s0, if_neg s1, if_neg s2, if_neg s3]) hm
  rw [if_pos s1]
  have hk := h1.kp1 (Or.inl s1)
  have hmm := mmO_eq h hC hP hok ht (Or.inr (Or.inl s1)) (by omega)
  have ho := hok.opm hP ht (Or.inl s1)
  have hsz : szO jv t = (a.mo (P.opd t (a.th t).pl)).q.length := by rw [szO_eq h hok, hmm]
  have hq := hok.wt t ht s1
  have hk0 := k0O_eq h hok ht (by rw [hmm]; exact hq)
  rw [hmm] at hk0
  rw [hmm, hsz] at eM eN
  have h2 := h.leave ho ht s1 hok hk0.1 hk0.2.1
  by_cases w1 : w = 1
  · simp only [if_pos w1, if_neg (show ¬ w = 2 by omega)] at eM eN ⊢
    subst eM eN
    have h3 := (h2.fi ht 0).put ht 1 (by decide) (up2 (m_oLeave jv t (P.opd t (a.th t).pl) (a.mo (P.opd t (a.th t).pl)).q.length (k0O jv t)) 9 t 0)
    rw [sT_sT, sT_sT, sT_th, sT_th] at h3
    exact h3
  simp only [if_neg w1] at eM eN ⊢
  by_cases w2 : w = 2
  · simp only [if_pos w2] at eM eN ⊢
    subst eM eN
    have h3 := h2.fs ht 1
    rw [sT_sT, sT_th] at h3
    exact h3
  · simp only [if_neg w2] at eM eN ⊢
    subst eM eN
    have h3 := h2.put ht 3 (by decide) (m_oLeave jv t (P.opd t (a.th t).pl) (a.mo (P.opd t (a.th t).pl)).q.length (k0O jv t))
    rw [sT_sT, sT_th] at h3
    exact h3
set_option maxHeartbeats 1000000 in
theorem RR.may (h : RR jv0 lv0 jv lv 4 a) (hC : RP jv0 P) (hP : okPR P) (hok : okAS P a) {w : Nat} (ht : t < 4) (hw4 : w < 4) : mayO jv t (nI w) = nI (aMay P a t w) := by
  have h1 := hok.th t ht
  have hT := h.th t ht
  have hst := h1.st
  have hfi := h1.fi
  have hfs := h1.fs
  have hlo := hP.loose
  have hlo2 := (h.rp hC).loose
  have hp := pO_eq h hP hok ht
  unfold mayO r_oMay aMay
  have L : ∀ n, n < 100 → ((jv 5 t = nI n) = ((a.th t).st = n)) := fun n hn => by rw [hT.1]; exact nlit (by omega) (by omega)
  have W : ∀ n, n < 100 → ((nI w = nI n) = (w = n)) := fun n hn => nlit (by omega) (by omega)
  have F : ((jv 9 t = nI 0) = ((a.th t).fi = 0)) := by rw [hT.2.2.2.2.2.1]; exact nlit (by omega) (by decide)
  have S : ((jv 11 t = nI 0) = ((a.th t).fs = 0)) := by rw [hT.2.2.2.2.2.2.2]; exact nlit (by omega) (by decide)
  have O : ((jv 0 0 = nI 0) = (P.loose = 0)) := by rw [hlo2]; exact nlit (by omega) (by decide)
  have B : ∀ (p : Prop) [Decidable p] (x y : Nat), (if p then nI x else nI y) = nI (if p then x else y) := fun p _ x y => by split <;> rfl
  have C2 : ∀ (p : Prop) [Decidable p], ((nI (if p then 1 else 0) = nI 0) = ¬ p) := fun p _ => by by_cases hp : p <;> simp [hp] <;> decide
  have C3 : ∀ (p : Prop) [Decidable p], ((nI (if p then 0 else 1) = nI 0) = p) := fun p _ => by by_cases hp : p <;> simp [hp] <;> decide
  simp only [q0, q1, q2, q3, L 0 (by decide), L 1 (by decide), L 2 (by decide), L 3 (by decide), W 0 (by decide), W 1 (by decide), W 2 (by decide), W 3 (by decide), S, O, B]
  by_cases s0 : (a.th t).st = 0
  · simp only [if_pos s0]
    have hl := h1.lt (by omega)
    have hc := hP.act t _ ht hl
    have hpp : pO jv t = (a.th t).pl := by rw [hp]; unfold pR; simp [s0, show ¬ t = 4 by omega]
    have hact : r_oAction jv t (pO jv t) = nI (P.act t (a.th t).pl) := by rw [hpp]; exact (h.rp hC).act t _ ht hl
    unfold r_oRmay
    rw [hact]
    have A : ∀ n, n < 100 → ((nI (P.act t (a.th t).pl) = nI n) = (P.act t (a.th t).pl = n)) := fun n hn => nlit (by omega) (by omega)
    simp only [q0, q1, q2, q4, A 0 (by decide), A 4 (by decide), A 9 (by decide), show (9 : Int32) = nI 9 from rfl, F, W 0 (by decide), W 1 (by decide), W 2 (by decide)]
    by_cases ha : P.act t (a.th t).pl < 6
    · have ho := hP.opm t _ ht hl ha
      have hmm := mmO_eq h hC hP hok ht (Or.inl s0) ha
      have hM := h.mo _ ho
      have how := hok.ow _ ho
      have hq4 := hok.len ho
      rw [hmm, hM.1, hM.2.2.1]
      rw [if_neg (show ¬ P.act t (a.th t).pl = 9 by omega), if_neg (show ¬ P.act t (a.th t).pl = 9 by omega)]
      have E1 : ((nI (a.mo (P.opd t (a.th t).pl)).ow - 1 < nI 0) = ((a.mo (P.opd t (a.th t).pl)).ow = 0)) := by
        apply propext
        by_cases q : (a.mo (P.opd t (a.th t).pl)).ow = 0
        · rw [q]; exact ⟨fun _ => rfl, fun _ => by decide⟩
        · rw [qpred (by omega), qLt (by omega) (by decide)]; omega
      have E2 : ((nI (a.mo (P.opd t (a.th t).pl)).ow - 1 = nI t) = ((a.mo (P.opd t (a.th t).pl)).ow = t + 1)) := propext (qmt (by omega) (by omega))
      have E3 : ((nI (a.mo (P.opd t (a.th t).pl)).q.length ≤ nI 0) = ((a.mo (P.opd t (a.th t).pl)).q.length = 0)) := propext (by rw [qLe (by omega) (by omega)]; omega)
      simp only [E1, E2, E3, B, C2, C3]
    · rw [if_neg (show ¬ P.act t (a.th t).pl = 4 by omega), if_neg (show ¬ P.act t (a.th t).pl = 0 by omega), if_neg (show ¬ P.act t (a.th t).pl = 4 by omega), if_neg (show ¬ P.act t (a.th t).pl = 0 by omega)]
      by_cases c9 : P.act t (a.th t).pl = 9
      · simp only [if_pos c9]
        have hu := uO_eq h hC hP hok ht s0 (by omega)
        have ho4 := hP.opt t _ ht hl (by omega)
        have hus := (hok.th _ ho4).st
        rw [hu, (h.th _ ho4).1]
        have E4 : ((nI (a.th (P.opd t (a.th t).pl)).st = nI 4) = ((a.th (P.opd t (a.th t).pl)).st = 4)) := nlit (by omega) (by decide)
        simp only [E4, B]
      · simp only [if_neg c9, B]
  simp only [if_neg s0]
  by_cases s1 : (a.th t).st = 1
  · simp only [if_pos s1]
    have hl := h1.lt (by omega)
    have hc := hP.act t _ ht hl
    have hpp : pO jv t = (a.th t).pl + 1 := by rw [hp]; unfold pR; simp [s1]
    unfold r_oTimed
    rw [hpp, hT.2.2.2.2.2.1, show 6 * t + ((a.th t).pl + 1) - 1 = 6 * t + (a.th t).pl by omega, (h.rp hC).act t _ ht hl]
    have A : ((nI (P.act t (a.th t).pl) = nI 3) = (P.act t (a.th t).pl = 3)) := nlit (by omega) (by decide)
    simp only [q0, q1, q3, A, B, C2]
    by_cases w1 : w = 1 <;> by_cases w2 : w = 2 <;> by_cases w3 : w = 3 <;> by_cases hc3 : P.act t (a.th t).pl = 3 <;> simp [w1, w2, w3, hc3]
  simp only [if_neg s1]
  by_cases s2 : (a.th t).st = 2
  · simp only [if_pos s2]
    have hk := h1.kp1 (Or.inr s2)
    have ho := hok.opm hP ht (Or.inr s2)
    have how := hok.ow _ ho
    have hmm := mmO_eq h hC hP hok ht (Or.inr (Or.inr s2)) (by omega)
    rw [hmm, (h.mo _ ho).1]
    have E1 : ((nI 0 ≤ nI (a.mo (P.opd t (a.th t).pl)).ow - 1) = ¬ ((a.mo (P.opd t (a.th t).pl)).ow = 0)) := by
      apply propext
      by_cases q : (a.mo (P.opd t (a.th t).pl)).ow = 0
      · rw [q]; exact ⟨fun h => absurd h (by decide), fun h => absurd rfl h⟩
      · rw [qpred (by omega), qLe (by decide) (by omega)]; exact ⟨fun _ => q, fun _ => by omega⟩
    simp only [E1]
    by_cases hw0 : w = 0 <;> by_cases hf : (a.mo (P.opd t (a.th t).pl)).ow = 0 <;> simp [hw0, hf]
  simp only [if_neg s2]
  by_cases s3 : (a.th t).st = 3
  · simp only [if_pos s3, hT.2.2.2.2.2.1, B]
  simp only [if_neg s3]
end
