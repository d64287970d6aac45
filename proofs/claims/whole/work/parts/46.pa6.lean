section
variable {iv0 iv : Nat → Nat → Int32} {mi : Nat} {a : AS} {P : PR}
set_option maxHeartbeats 1000000 in
theorem CR.tak (h : CR iv0 iv mi a) (hmi : mi < 2) (hC : CP iv0 P) (hP : okPR P) (hok : okAS P a) {t w mm u sz : Nat} (ht : t < 4) (hw4 : w < 4) (hop : opOK P a t mm u) (hsz : sz = (a.mo mm).q.length) (hm : ¬ aMay P a t w = 0) : CR iv0 (m_aTake iv mi t mm u (nI w) sz) mi (aTak P a t w) := by
  subst hsz
  have h1 := hok.th t ht
  have hT := h.th t ht
  have hst := h1.st
  unfold m_aTake aTak
  rw [hT.1]
  have L : ∀ n, n < 100 → ((nI (a.th t).st = nI n) = ((a.th t).st = n)) := fun n hn => nlit (by omega) (by omega)
  have W : ∀ n, n < 100 → ((nI w = nI n) = (w = n)) := fun n hn => nlit (by omega) (by omega)
  simp only [q0, q1, q2, q3, L 0 (by decide), L 1 (by decide), L 2 (by decide), L 3 (by decide)]
  by_cases s0 : (a.th t).st = 0
  · rw [if_pos s0, if_pos s0]
    have hl := h1.lt (by omega)
    have hc := hP.act t _ ht hl
    rw [h.act hmi hC hP ht hl]
    by_cases ha : P.act t (a.th t).pl < 6
    · rw [if_pos ha, if_neg (by rw [show (5 : Int32) = nI 5 from rfl, qLt (by decide) (by omega)]; omega), hop.m0 s0 ha]
      exact h.mon hmi hC hP hok ht hw4 s0 ha hm
    · rw [if_neg ha, if_pos (by rw [show (5 : Int32) = nI 5 from rfl, qLt (by decide) (by omega)]; omega)]
      exact h.oth hmi hC hP hok ht s0 ha (hop.u0 s0)
  rw [if_neg s0, if_neg s0]
  by_cases s1 : (a.th t).st = 1
  · rw [if_pos s1, if_pos s1]
    have ho := hok.opm hP ht (Or.inl s1)
    rw [hop.m1 (Or.inl s1)]
    unfold m_aLeave
    simp only [q1, q2, W 1 (by decide), W 2 (by decide)]
    have D : ∀ (iv' : Nat → Nat → Int32) (x : TH), CR iv0 iv' mi (sT a t x) → CR iv0 (up2 (m_mDrop iv' mi (P.opd t (a.th t).pl) (nI t) (a.mo (P.opd t (a.th t).pl)).q.length) (20 + 4 * mi + t) 0 (nI 2)) mi (sM (sT a t (TH.mk 2 x.pl x.kp x.fi x.fp x.fs x.n x.r)) (P.opd t (a.th t).pl) (MO.mk ((a.mo (P.opd t (a.th t).pl)).ow) ((a.mo (P.opd t (a.th t).pl)).de) ((a.mo (P.opd t (a.th t).pl)).q.erase t))) := fun iv' x hx => by
      have h2 := (hx.drop hmi ho ht (hok.nd _ ho) (fun w hw => (hok.q _ ho w hw).1)).st hmi ht 2
      rw [sT_sM, sT_sT, sM_th, sT_th] at h2
      exact h2
    by_cases w1 : w = 1
    · rw [if_pos w1, if_pos w1]
      have h2 := (h.fi hmi ht 0).put hmi ht 1
      rw [sT_sT, sT_th] at h2
      exact D _ _ h2
    rw [if_neg w1, if_neg w1]
    by_cases w2 : w = 2
    · rw [if_pos w2, if_pos w2]; exact D _ _ (h.fs hmi ht 1)
    · rw [if_neg w2, if_neg w2]; exact D _ _ (h.put hmi ht 3)
  rw [if_neg s1, if_neg s1]
  by_cases s2 : (a.th t).st = 2
  · rw [if_pos s2, if_pos s2]
    have ho := hok.opm hP ht (Or.inr s2)
    rw [hop.m1 (Or.inr s2)]
    unfold m_aBack
    rw [hT.2.2.1]
    have h2 := (h.ownT hmi ho t (a.th t).kp).kp hmi ht 0
    exact h2.goT hP hC hmi ht (h1.lt (by omega))
  rw [if_neg s2, if_neg s2]
  by_cases s3 : (a.th t).st = 3
  · rw [if_pos s3, if_pos s3]
    unfold m_aStopPark
    simp only [q3, W 3 (by decide)]
    have hl := h1.lt (by omega)
    by_cases w3 : w = 3
    · rw [if_pos w3, if_pos w3]; exact (h.fs hmi ht 1).goT hP hC hmi ht hl
    · rw [if_neg w3, if_neg w3]; exact h.go0 hP hC hmi ht hl
  rw [if_neg s3, if_neg s3]
  exact h
set_option maxHeartbeats 1000000 in
theorem CR.may (h : CR iv0 iv mi a) (hmi : mi < 2) (hC : CP iv0 P) (hP : okPR P) (hok : okAS P a) {t w mm u : Nat} (ht : t < 4) (hw4 : w < 4) (hop : opOK P a t mm u) : r_aMay iv mi t mm u (nI w) = nI (aMay P a t w) := by
  have h1 := hok.th t ht
  have hT := h.th t ht
  have hst := h1.st
  have hfi := h1.fi
  have hfs := h1.fs
  have hlo := hP.loose
  have hlo2 := (h.goCP hC hmi).loose mi hmi
  unfold r_aMay aMay r_aWaitMay r_aStray
  rw [hT.1, hT.2.2.2.1, hT.2.2.2.2.2.1, hlo2]
  have L : ∀ n, n < 100 → ((nI (a.th t).st = nI n) = ((a.th t).st = n)) := fun n hn => nlit (by omega) (by omega)
  have W : ∀ n, n < 100 → ((nI w = nI n) = (w = n)) := fun n hn => nlit (by omega) (by omega)
  have F : ((nI (a.th t).fi = nI 0) = ((a.th t).fi = 0)) := nlit (by omega) (by omega)
  have S : ((nI (a.th t).fs = nI 0) = ((a.th t).fs = 0)) := nlit (by omega) (by omega)
  have O : ((nI P.loose = nI 0) = (P.loose = 0)) := nlit (by omega) (by omega)
  have B : ∀ (p : Prop) [Decidable p] (x y : Nat), (if p then nI x else nI y) = nI (if p then x else y) := fun p _ x y => by split <;> rfl
  simp only [q0, q1, q2, q3, L 0 (by decide), L 1 (by decide), L 2 (by decide), L 3 (by decide), W 0 (by decide), W 1 (by decide), W 2 (by decide), W 3 (by decide), S, O, B]
  have N01 : (nI 0 = nI 0) = True := by simp
  have N11 : (nI 1 = nI 0) = False := by simp; decide
  have C2 : ∀ (p : Prop) [Decidable p], ((nI (if p then 1 else 0) = nI 0) = ¬ p) := fun p _ => by by_cases hp : p <;> simp [hp] <;> decide
  have C3 : ∀ (p : Prop) [Decidable p], ((nI (if p then 0 else 1) = nI 0) = p) := fun p _ => by by_cases hp : p <;> simp [hp] <;> decide
  by_cases s0 : (a.th t).st = 0
  · simp only [if_pos s0]
    have hl := h1.lt (by omega)
    have hc := hP.act t _ ht hl
    have ho := hP.opm t _ ht hl
    have ho4 := hP.opt t _ ht hl
    unfold r_aPlainMay r_aMonMay r_aEnded r_mIsFree
    rw [h.act hmi hC hP ht hl, hT.2.2.2.1]
    have A : ∀ n, n < 100 → ((nI (P.act t (a.th t).pl) = nI n) = (P.act t (a.th t).pl = n)) := fun n hn => nlit (by omega) (by omega)
    simp only [q0, q1, q2, q4, A 0 (by decide), A 4 (by decide), A 9 (by decide), show (9 : Int32) = nI 9 from rfl, show (5 : Int32) = nI 5 from rfl, qLt (a := 5) (b := P.act t (a.th t).pl) (by decide) (by omega), F, W 0 (by decide), W 1 (by decide), W 2 (by decide)]
    by_cases ha : P.act t (a.th t).pl < 6
    · have ho := ho ha
      have hM := h.mo _ ho
      have how := hok.ow _ ho
      have hq4 := hok.len ho
      rw [if_neg (show ¬ 5 < P.act t (a.th t).pl by omega), hop.m0 s0 ha, hM.1, hM.2.2.1]
      have E1 : ((nI (a.mo (P.opd t (a.th t).pl)).ow - 1 = -nI 1) = ((a.mo (P.opd t (a.th t).pl)).ow = 0)) := propext (qm1 (by omega))
      have E2 : ((nI (a.mo (P.opd t (a.th t).pl)).ow - 1 = nI t) = ((a.mo (P.opd t (a.th t).pl)).ow = t + 1)) := propext (qmt (by omega) (by omega))
      have E3 : ((nI (a.mo (P.opd t (a.th t).pl)).q.length ≤ nI 0) = ((a.mo (P.opd t (a.th t).pl)).q.length = 0)) := propext (by rw [qLe (by omega) (by omega)]; omega)
      rw [if_neg (show ¬ P.act t (a.th t).pl = 9 by omega)]
      simp only [E1, E2, E3, B, C2]
      congr 1
      by_cases c4 : P.act t (a.th t).pl = 4
      · simp only [if_pos c4]
        by_cases hw : (a.mo (P.opd t (a.th t).pl)).ow = t + 1
        · simp only [hw]
          simp
        · simp [hw, c4]
      · simp only [if_neg c4]
        by_cases hw0 : w = 0
        · simp only [if_pos hw0]
          by_cases c0 : P.act t (a.th t).pl = 0
          · simp only [if_pos c0]
            by_cases hf : (a.mo (P.opd t (a.th t).pl)).ow = 0
            · simp [hf]
            · by_cases hw : (a.mo (P.opd t (a.th t).pl)).ow = t + 1 <;> simp [hf, hw]
          · simp only [if_neg c0]
        · simp only [if_neg hw0]
    · rw [if_pos (show 5 < P.act t (a.th t).pl by omega), if_neg (show ¬ P.act t (a.th t).pl = 4 by omega), if_neg (show ¬ P.act t (a.th t).pl = 0 by omega)]
      by_cases c9 : P.act t (a.th t).pl = 9
      · simp only [if_pos c9]
        have hu := hop.u0 s0 (by omega)
        rw [hu]
        have hus := (hok.th _ (ho4 (by omega))).st
        rw [(h.th _ (ho4 (by omega))).1]
        have E4 : ((nI (a.th (P.opd t (a.th t).pl)).st = nI 4) = ((a.th (P.opd t (a.th t).pl)).st = 4)) := nlit (by omega) (by decide)
        simp only [E4, B, C2]
        congr 1
        by_cases hw0 : w = 0 <;> by_cases hf : (a.th t).fi = 0 <;> by_cases hs4 : (a.th (P.opd t (a.th t).pl)).st = 4 <;> simp [hw0, hf, hs4]
      · simp only [if_neg c9, B]
  simp only [if_neg s0]
  by_cases s1 : (a.th t).st = 1
  · simp only [if_pos s1]
    rw [h.act hmi hC hP ht (h1.lt (by omega))]
    have hc := hP.act t _ ht (h1.lt (by omega))
    have A : ((nI (P.act t (a.th t).pl) = nI 3) = (P.act t (a.th t).pl = 3)) := nlit (by omega) (by decide)
    simp only [A, B]
  simp only [if_neg s1]
  by_cases s2 : (a.th t).st = 2
  · simp only [if_pos s2]
    have ho := hok.opm hP ht (Or.inr s2)
    have how := hok.ow _ ho
    unfold r_mIsFree
    rw [hop.m1 (Or.inr s2), (h.mo _ ho).1]
    have E1 : ((nI (a.mo (P.opd t (a.th t).pl)).ow - nI 1 = -nI 1) = ((a.mo (P.opd t (a.th t).pl)).ow = 0)) := propext (qm1 (by omega))
    simp only [E1, q0, q1, B, C2]
    by_cases hw0 : w = 0 <;> by_cases hf : (a.mo (P.opd t (a.th t).pl)).ow = 0 <;> simp [hw0, hf]
  simp only [if_neg s2]
  by_cases s3 : (a.th t).st = 3
  · simp only [if_pos s3]
    by_cases w1 : w = 1
    · simp only [if_pos w1]
    · simp only [if_neg w1]
      by_cases w3 : w = 3 <;> by_cases hlo : P.loose = 0 <;> by_cases hfs : (a.th t).fs = 0 <;> simp [w3, hlo, hfs] <;> decide
  simp only [if_neg s3]
end
