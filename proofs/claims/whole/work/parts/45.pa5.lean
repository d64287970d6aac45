section
variable {iv0 iv : Nat → Nat → Int32} {mi : Nat} {a : AS} {P : PR}
def opOK (P : PR) (a : AS) (t mm u : Nat) : Prop := ((a.th t).st = 0 → P.act t (a.th t).pl < 6 → mm = P.opd t (a.th t).pl) ∧ ((a.th t).st = 1 ∨ (a.th t).st = 2 → mm = P.opd t (a.th t).pl) ∧ ((a.th t).st = 0 → P.act t (a.th t).pl = 6 ∨ P.act t (a.th t).pl = 8 ∨ P.act t (a.th t).pl = 9 → u = P.opd t (a.th t).pl)
theorem opOK.m0 {P : PR} {a : AS} {t mm u : Nat} (h9 : opOK P a t mm u) : (a.th t).st = 0 → P.act t (a.th t).pl < 6 → mm = P.opd t (a.th t).pl := h9.1
theorem opOK.m1 {P : PR} {a : AS} {t mm u : Nat} (h9 : opOK P a t mm u) : (a.th t).st = 1 ∨ (a.th t).st = 2 → mm = P.opd t (a.th t).pl := h9.2.1
theorem opOK.u0 {P : PR} {a : AS} {t mm u : Nat} (h9 : opOK P a t mm u) : (a.th t).st = 0 → P.act t (a.th t).pl = 6 ∨ P.act t (a.th t).pl = 8 ∨ P.act t (a.th t).pl = 9 → u = P.opd t (a.th t).pl := h9.2.2
theorem CR.act (h : CR iv0 iv mi a) (hmi : mi < 2) (hC : CP iv0 P) (hP : okPR P) {t : Nat} (ht : t < 4) (hl : (a.th t).pl < P.len t) : r_wAction iv mi t = nI (P.act t (a.th t).pl) := by
  have h1 := h.th t ht
  have hlen := hP.len t ht
  unfold r_wAction
  rw [h1.2.1, qC (by omega)]
  exact (h.goCP hC hmi).act t _ ht hl
theorem CR.opd (h : CR iv0 iv mi a) (hmi : mi < 2) (hC : CP iv0 P) (hP : okPR P) {t : Nat} (ht : t < 4) (hl : (a.th t).pl < P.len t) (hc : P.act t (a.th t).pl < 6 ∨ P.act t (a.th t).pl = 6 ∨ P.act t (a.th t).pl = 8 ∨ P.act t (a.th t).pl = 9 ∨ P.act t (a.th t).pl = 11) : r_wOperand iv mi t = nI (P.opd t (a.th t).pl) := by
  have h1 := h.th t ht
  have hlen := hP.len t ht
  unfold r_wOperand
  rw [h1.2.1, qC (by omega)]
  exact (h.goCP hC hmi).opd t _ ht hl hc
theorem CR.go0 (h : CR iv0 iv mi a) (hP : okPR P) (hC : CP iv0 P) (hmi : mi < 2) {t : Nat} (ht : t < 4) (hl : (a.th t).pl < P.len t) : CR iv0 (m_wRunOn iv mi t) mi (aGo P a t) := h.run hP (h.goCP hC hmi) hmi ht hl
theorem nlit {c n : Nat} (hc : c < 2 ^ 31) (hn : n < 2 ^ 31) : (nI c = nI n) = (c = n) := propext (qE hc hn)
theorem CR.goT {x : TH} {t : Nat} (h : CR iv0 iv mi (sT a t x)) (hP : okPR P) (hC : CP iv0 P) (hmi : mi < 2) (ht : t < 4) (hl : x.pl < P.len t) : CR iv0 (m_wRunOn iv mi t) mi (sT a t (aRun P t x)) := by
  have := h.go0 hP hC hmi ht (by rw [sT_th]; exact hl)
  unfold aGo at this
  rw [sT_sT, sT_th] at this
  exact this
set_option maxHeartbeats 1000000 in
theorem CR.mon (h : CR iv0 iv mi a) (hmi : mi < 2) (hC : CP iv0 P) (hP : okPR P) (hok : okAS P a) {t w : Nat} (ht : t < 4) (hw4 : w < 4) (s0 : (a.th t).st = 0) (ha : P.act t (a.th t).pl < 6) (hm : ¬ aMay P a t w = 0) : CR iv0 (m_aUse iv mi t (P.opd t (a.th t).pl) (nI w) (a.mo (P.opd t (a.th t).pl)).q.length) mi (aMon P a t (P.opd t (a.th t).pl) (P.act t (a.th t).pl) w) := by
  have h1 := hok.th t ht
  have hl := h1.lt (by omega)
  have hT := h.th t ht
  have ho := hP.opm t _ ht hl ha
  have hM := h.mo _ ho
  have hact := h.act hmi hC hP ht hl
  have how := hok.ow _ ho
  have hlen := hP.len t ht
  have hq4 := hok.len ho
  unfold aMay at hm
  rw [if_pos s0] at hm
  unfold m_aUse aMon
  rw [hact]
  generalize ho' : P.opd t (a.th t).pl = o at *
  generalize hc' : P.act t (a.th t).pl = c at *
  have L : ∀ n, n < 100 → ((nI c = nI n) = (c = n)) := fun n hn => nlit (by omega) (by omega)
  by_cases c0 : c = 0
  · rw [if_pos (by rw [c0]; rfl), if_pos c0, hM.2.1, ← qS]
    exact (h.ownT hmi ho t ((a.mo o).de + 1)).go0 hP hC hmi ht hl
  rw [if_neg (by rw [q0, L 0 (by decide)]; exact c0), if_neg c0, hM.1]
  by_cases hw : (a.mo o).ow = t + 1
  · rw [if_pos ((qmt (by omega) (by omega)).2 hw), if_pos hw]
    have hde := hok.de o t ho ht hw
    by_cases c1 : c = 1
    · rw [if_pos (by rw [c1]; rfl), if_pos c1]
      exact (h.leave hmi ho hde.1 (by omega)).go0 hP hC hmi ht hl
    rw [if_neg (by rw [q1, L 1 (by decide)]; exact c1), if_neg c1]
    by_cases c4 : c = 4
    · rw [if_pos (by rw [c4]; rfl), if_pos c4]
      rw [if_pos c4, if_pos hw] at hm
      by_cases hw0 : w = 0
      · rw [if_pos hw0, hw0, if_neg (by decide)]
        have hq : (a.mo o).q.length = 0 := by
          by_cases hq : (a.mo o).q.length = 0
          · exact hq
          · rw [if_neg hq, hw0] at hm; exact absurd rfl hm
        have e : m_aNotify iv mi o (nI (a.mo o).q.length - 1) (a.mo o).q.length = iv := by
          rw [hq]
          unfold m_aNotify
          have : r_mWaiter iv mi o (nI 0 - 1) = -1 := by unfold r_mWaiter; rw [if_pos (by decide)]
          rw [if_pos this]
        rw [e]
        exact h.go0 hP hC hmi ht hl
      · have hq : 0 < (a.mo o).q.length := by
          by_cases hq : (a.mo o).q.length = 0
          · rw [if_pos hq, if_neg hw0] at hm; exact absurd rfl hm
          · omega
        rw [if_neg hw0]
        have key : ∀ v, v ∈ (a.mo o).q → (aNtf a o v).th t = a.th t := fun v hv => ntf_keep (fun e => by have := (hok.q o ho v hv).2.1; rw [← e] at this; omega)
        by_cases hw1 : w = 1
        · rw [if_pos hw1, if_pos (by rw [hw1]; rfl), headD_getD]
          exact (h.ntf hmi ho hok hq).go0 hP hC hmi ht (by rw [key _ (getD_mem hq)]; exact hl)
        · rw [if_neg hw1, if_neg (by rw [q1, nlit (by omega) (by decide)]; exact hw1), lastD_getD hq, qpred hq]
          exact (h.ntf hmi ho hok (k := (a.mo o).q.length - 1) (by omega)).go0 hP hC hmi ht (by rw [key _ (getD_mem (by omega))]; exact hl)
    rw [if_neg (by rw [q4, L 4 (by decide)]; exact c4), if_neg c4]
    by_cases c5 : c = 5
    · rw [if_pos (by rw [c5]; rfl), if_pos c5]
      exact (CR.ntA hmi ho _ iv a h hok rfl).go0 hP hC hmi ht (by rw [ntA_keep ho _ a hok rfl (by omega)]; exact hl)
    rw [if_neg (by rw [show (5 : Int32) = nI 5 from rfl, L 5 (by decide)]; exact c5), if_neg c5]
    unfold r_wTakeInt m_wTakeInt
    have h2 := h.fi hmi ht 0
    rw [hT.2.2.2.1]
    have hfi := h1.fi
    by_cases hi : (a.th t).fi = 0
    · rw [if_pos hi, if_pos (by rw [hi]; rfl)]
      have h3 := h2.into hmi ho ht (by show (a.mo o).q.length < 4; exact hok.len3 ho ht (by omega))
      rw [sT_sT, sT_th, sT_mo] at h3
      have e : ((TH.mk 1 ((a.th t).pl) ((a.mo o).de) ((a.th t).fi) ((a.th t).fp) ((a.th t).fs) ((a.th t).n) ((a.th t).r)) : TH) = (TH.mk 1 (((TH.mk ((a.th t).st) ((a.th t).pl) ((a.th t).kp) 0 ((a.th t).fp) ((a.th t).fs) ((a.th t).n) ((a.th t).r)) : TH).pl) ((a.mo o).de) (((TH.mk ((a.th t).st) ((a.th t).pl) ((a.th t).kp) 0 ((a.th t).fp) ((a.th t).fs) ((a.th t).n) ((a.th t).r)) : TH).fi) (((TH.mk ((a.th t).st) ((a.th t).pl) ((a.th t).kp) 0 ((a.th t).fp) ((a.th t).fs) ((a.th t).n) ((a.th t).r)) : TH).fp) (((TH.mk ((a.th t).st) ((a.th t).pl) ((a.th t).kp) 0 ((a.th t).fp) ((a.th t).fs) ((a.th t).n) ((a.th t).r)) : TH).fs) (((TH.mk ((a.th t).st) ((a.th t).pl) ((a.th t).kp) 0 ((a.th t).fp) ((a.th t).fs) ((a.th t).n) ((a.th t).r)) : TH).n) (((TH.mk ((a.th t).st) ((a.th t).pl) ((a.th t).kp) 0 ((a.th t).fp) ((a.th t).fs) ((a.th t).n) ((a.th t).r)) : TH).r)) := by rw [← hi]
      rw [e]
      exact h3
    · rw [if_neg hi, if_neg (by rw [q0, nlit (by omega) (by decide)]; exact hi)]
      have h3 := h2.put hmi ht 1
      rw [sT_sT, sT_th] at h3
      exact h3.goT hP hC hmi ht hl
  · rw [if_neg (fun e => hw ((qmt (by omega) (by omega)).1 e)), if_neg hw]
    exact (h.put hmi ht 0).goT hP hC hmi ht hl
theorem CR.intr (h : CR iv0 iv mi a) (hmi : mi < 2) (hok : okAS P a) {u : Nat} (hu : u < 4) : CR iv0 (m_aIntr iv mi u) mi (aInt a u) := by
  have h1 := (hok.th u hu).st
  unfold m_aIntr aInt
  rw [(h.th u hu).1]
  by_cases hs : (a.th u).st = 4
  · rw [if_pos hs, if_pos (by rw [hs]; rfl)]; exact h
  · rw [if_neg hs, if_neg (by rw [q4, nlit (by omega) (by decide)]; exact hs)]
    exact h.fi hmi hu 1
theorem CR.unp (h : CR iv0 iv mi a) (hmi : mi < 2) (hC : CP iv0 P) (hP : okPR P) (hok : okAS P a) {u : Nat} (hu : u < 4) : CR iv0 (m_aUnpark iv mi u) mi (aUnp P a u) := by
  have h1 := (hok.th u hu).st
  unfold m_aUnpark aUnp
  rw [(h.th u hu).1]
  by_cases hs3 : (a.th u).st = 3
  · rw [if_pos hs3, if_pos (by rw [hs3]; rfl)]; exact h.go0 hP hC hmi hu ((hok.th u hu).lt (by omega))
  rw [if_neg hs3, if_neg (by rw [q3, nlit (by omega) (by decide)]; exact hs3)]
  by_cases hs : (a.th u).st = 4
  · rw [if_pos hs, if_pos (by rw [hs]; rfl)]; exact h
  · rw [if_neg hs, if_neg (by rw [q4, nlit (by omega) (by decide)]; exact hs)]
    exact h.fp hmi hu 1
theorem aInt_pl (a : AS) (u t : Nat) : ((aInt a u).th t).pl = (a.th t).pl := by
  unfold aInt
  split
  · rfl
  · show (if t = u then _ else a.th t).pl = _
    split
    · rename_i e; subst e; rfl
    · rfl
theorem aUnp_pl {a : AS} {u t : Nat} (hs : (a.th t).st = 0) : ((aUnp P a u).th t).pl = (a.th t).pl := by
  unfold aUnp
  split
  · rename_i e
    rw [aGo, sT_ne _ _ (fun e2 => by rw [e2] at hs; omega)]
  · split
    · rfl
    · show (if t = u then _ else a.th t).pl = _
      split
      · rename_i e; subst e; rfl
      · rfl
set_option maxHeartbeats 1000000 in
theorem CR.oth (h : CR iv0 iv mi a) (hmi : mi < 2) (hC : CP iv0 P) (hP : okPR P) (hok : okAS P a) {t u : Nat} (ht : t < 4) (s0 : (a.th t).st = 0) (ha : ¬ P.act t (a.th t).pl < 6) (hu : P.act t (a.th t).pl = 6 ∨ P.act t (a.th t).pl = 8 ∨ P.act t (a.th t).pl = 9 → u = P.opd t (a.th t).pl) : CR iv0 (m_aPlain iv mi t u) mi (aOth P a t (P.opd t (a.th t).pl) (P.act t (a.th t).pl)) := by
  have h1 := hok.th t ht
  have hl := h1.lt (by omega)
  have hT := h.th t ht
  have hact := h.act hmi hC hP ht hl
  have hopd := h.opd hmi hC hP ht hl
  have hop4 := hP.opt t _ ht hl
  have hc12 := hP.act t _ ht hl
  unfold m_aPlain aOth r_wTakeInt m_wTakeInt
  rw [hact, hT.2.2.2.1, hT.2.2.2.2.1]
  have hfi := h1.fi
  have hfp := h1.fp
  generalize ho' : P.opd t (a.th t).pl = o at *
  generalize hc' : P.act t (a.th t).pl = c at *
  have L : ∀ n, n < 100 → ((nI c = nI n) = (c = n)) := fun n hn => nlit (by omega) (by omega)
  have Z : ((nI (a.th t).fi = 0) = ((a.th t).fi = 0)) := nlit (by omega) (by decide)
  have Z2 : ((nI (a.th t).fp = 0) = ((a.th t).fp = 0)) := nlit (by omega) (by decide)
  simp only [Z, Z2, L 6 (by decide), L 7 (by decide), L 8 (by decide), L 9 (by decide), L 10 (by decide), L 11 (by decide), L 12 (by decide), show (6 : Int32) = nI 6 from rfl, show (7 : Int32) = nI 7 from rfl, show (8 : Int32) = nI 8 from rfl, show (9 : Int32) = nI 9 from rfl, show (10 : Int32) = nI 10 from rfl, show (11 : Int32) = nI 11 from rfl, show (12 : Int32) = nI 12 from rfl]
  by_cases c6 : c = 6
  · rw [if_pos c6, if_pos c6, hu (by omega)]
    exact (h.intr hmi hok (hop4 (by omega))).go0 hP hC hmi ht (by rw [aInt_pl]; exact hl)
  rw [if_neg c6, if_neg c6]
  by_cases c7 : c = 7
  · rw [if_pos c7, if_pos c7]
    by_cases hp : (a.th t).fp = 0
    · rw [if_pos hp, if_pos hp]
      by_cases hi : (a.th t).fi = 0
      · rw [if_pos hi, if_pos hi]; exact h.st hmi ht 3
      · rw [if_neg hi, if_neg hi]; exact (h.fp hmi ht 0).goT hP hC hmi ht hl
    · rw [if_neg hp, if_neg hp]; exact (h.fp hmi ht 0).goT hP hC hmi ht hl
  rw [if_neg c7, if_neg c7]
  by_cases c8 : c = 8
  · rw [if_pos c8, if_pos c8, hu (by omega)]
    exact (h.unp hmi hC hP hok (hop4 (by omega))).go0 hP hC hmi ht (by rw [aUnp_pl s0]; exact hl)
  rw [if_neg c8, if_neg c8]
  have h2 := h.fi hmi ht 0
  have h3 := h2.put hmi ht 1
  rw [sT_sT, sT_th] at h3
  have key : (if (a.th t).fi = 0 then m_wRunOn (up2 iv (20 + 4 * mi + t) 3 0) mi t else m_wRunOn (m_wPut (up2 iv (20 + 4 * mi + t) 3 0) mi t 1) mi t) = (if (a.th t).fi = 0 then m_wRunOn (up2 iv (20 + 4 * mi + t) 3 0) mi t else m_wRunOn (m_wPut (up2 iv (20 + 4 * mi + t) 3 0) mi t 1) mi t) := rfl
  have B : CR iv0 (if (a.th t).fi = 0 then m_wRunOn (up2 iv (20 + 4 * mi + t) 3 0) mi t else m_wRunOn (m_wPut (up2 iv (20 + 4 * mi + t) 3 0) mi t 1) mi t) mi (if (a.th t).fi = 0 then sT a t (aRun P t (a.th t)) else sT a t (aRun P t (aPut (TH.mk ((a.th t).st) ((a.th t).pl) ((a.th t).kp) 0 ((a.th t).fp) ((a.th t).fs) ((a.th t).n) ((a.th t).r)) 1))) := by
    by_cases hi : (a.th t).fi = 0
    · rw [if_pos hi, if_pos hi]
      have h4 := h2.goT hP hC hmi ht hl
      have e : ((TH.mk ((a.th t).st) ((a.th t).pl) ((a.th t).kp) 0 ((a.th t).fp) ((a.th t).fs) ((a.th t).n) ((a.th t).r)) : TH) = a.th t := by rw [← hi]
      rw [e] at h4
      exact h4
    · rw [if_neg hi, if_neg hi]
      exact h3.goT hP hC hmi ht hl
  by_cases c9 : c = 9
  · rw [if_pos c9, if_neg (show ¬ c = 11 by omega), if_neg (show ¬ c = 12 by omega)]; exact B
  rw [if_neg c9]
  by_cases c10 : c = 10
  · rw [if_pos c10, if_neg (show ¬ c = 11 by omega), if_neg (show ¬ c = 12 by omega)]; exact B
  rw [if_neg c10]
  by_cases c11 : c = 11
  · rw [if_pos c11, if_pos c11, hopd (by omega), ← qA]
    exact (h.put hmi ht (8 + o)).goT hP hC hmi ht hl
  rw [if_neg c11, if_neg c11]
  have c12 : c = 12 := by omega
  rw [if_pos c12, if_pos c12]
  have e : (if (a.th t).fi = 0 then (5 : Int32) else 4) = nI (if (a.th t).fi = 0 then 5 else 4) := by split <;> rfl
  rw [e]
  have h4 := h2.put hmi ht (if (a.th t).fi = 0 then 5 else 4)
  rw [sT_sT, sT_th] at h4
  exact h4.goT hP hC hmi ht hl
end
