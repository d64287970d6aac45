section
variable {jv0 jv : Nat → Nat → Int32} {lv0 lv : Nat → Nat → Int64} {e t : Nat} {a : AS} {P : PR}
theorem okO_of (h : RR jv0 lv0 jv lv 4 a) (hC : RP jv0 P) (hP : okPR P) (hok : okAS P a) (ht : t < 4) : okO jv t := by
  have h1 := hok.th t ht
  have hT := h.th t ht
  have hst := h1.st
  have hlen := hP.len t ht
  have hpl := h1.pl
  have hp := pO_eq h hP hok ht
  have hRP := h.rp hC
  have S : ∀ n, n < 100 → ((jv 5 t = nI n) = ((a.th t).st = n)) := fun n hn => by rw [hT.1]; exact nlit (by omega) (by omega)
  have S0 : (jv 5 t = 0) = ((a.th t).st = 0) := S 0 (by decide)
  have S1 : (jv 5 t = 1) = ((a.th t).st = 1) := S 1 (by decide)
  have S2 : (jv 5 t = 2) = ((a.th t).st = 2) := S 2 (by decide)
  have S3 : (jv 5 t = 3) = ((a.th t).st = 3) := S 3 (by decide)
  unfold okO okR
  rw [S0, S1, S2, S3, hp]
  have hl : ¬ (a.th t).st = 4 → (a.th t).pl < P.len t := h1.lt
  have p0 : (a.th t).st = 0 → pR 4 t (a.th t) = (a.th t).pl := fun s => by unfold pR; simp [s, show ¬ t = 4 by omega]
  have p1 : (a.th t).st = 1 ∨ (a.th t).st = 2 ∨ (a.th t).st = 3 → pR 4 t (a.th t) = (a.th t).pl + 1 := fun s => by
    unfold pR
    rw [if_pos (by rcases s with s | s | s <;> simp [s])]
  refine ⟨hT.2.1, ?_, fun s => ?_, fun s => ?_, fun s ha => ?_, fun s ha => ?_, fun s => ?_, ?_⟩
  · unfold pR
    by_cases q : (a.th t).st = 4
    · simp [q, show ¬ t = 4 by omega]; omega
    · have := hl q; split <;> omega
  · rw [p0 s]; have := hl (by omega); omega
  · rw [p1 s]; omega
  · have hlt := hl (by omega)
    have hc := hP.act t _ ht hlt
    unfold r_oAction at ha
    unfold r_oOperand
    rw [p0 s] at ha ⊢
    rw [hRP.act t _ ht hlt] at ha
    have ha : P.act t (a.th t).pl < 6 := (qLt (b := 6) (by omega) (by decide)).1 ha
    rw [mmO_eq h hC hP hok ht (Or.inl s) ha]
    exact hRP.opd t _ ht hlt (by omega)
  · have hlt := hl (by omega)
    have hc := hP.act t _ ht hlt
    unfold r_oAction at ha
    unfold r_oOperand
    rw [p0 s] at ha ⊢
    rw [hRP.act t _ ht hlt] at ha
    have A : ∀ n, n < 100 → ((nI (P.act t (a.th t).pl) = nI n) = (P.act t (a.th t).pl = n)) := fun n hn => nlit (by omega) (by omega)
    have A6 : (nI (P.act t (a.th t).pl) = 6) = (P.act t (a.th t).pl = 6) := A 6 (by decide)
    have A8 : (nI (P.act t (a.th t).pl) = 8) = (P.act t (a.th t).pl = 8) := A 8 (by decide)
    have A9 : (nI (P.act t (a.th t).pl) = 9) = (P.act t (a.th t).pl = 9) := A 9 (by decide)
    rw [A6, A8, A9] at ha
    rw [uO_eq h hC hP hok ht s ha]
    exact hRP.opd t _ ht hlt (by omega)
  · have hlt := hl (by omega)
    have hk := (h1.kp1 s).2
    rw [p1 (by omega), show 6 * t + ((a.th t).pl + 1) - 1 = 6 * t + (a.th t).pl by omega, mmO_eq h hC hP hok ht (by omega) (by omega)]
    exact hRP.opd t _ ht hlt (by omega)
  · rw [hT.2.2.2.2.2.1]; exact nb01 h1.fi
theorem okP_of (h : RR jv0 lv0 jv lv 4 a) (hC : RP jv0 P) (hP : okPR P) (hok : okAS P a) (ht : t < 4) {w : Nat} (hw : w < 4) (hm : ¬ aMay P a t w = 0) : okP jv t (nI w) := by
  have h1 := hok.th t ht
  have hT := h.th t ht
  have hst := h1.st
  have hlen := hP.len t ht
  have hp := pO_eq h hP hok ht
  have hRP := h.rp hC
  have hmlt : mmO jv t < 2 := Nat.mod_lt _ (by decide)
  have hsz := szO_eq (t := t) h hok
  have hq4 := hok.len hmlt
  have hM := h.mo _ hmlt
  have S : ∀ n, n < 100 → ((jv 5 t = nI n) = ((a.th t).st = n)) := fun n hn => by rw [hT.1]; exact nlit (by omega) (by omega)
  have S0 : (jv 5 t = 0) = ((a.th t).st = 0) := S 0 (by decide)
  have S2 : (jv 5 t = 2) = ((a.th t).st = 2) := S 2 (by decide)
  have S3 : (jv 5 t = 3) = ((a.th t).st = 3) := S 3 (by decide)
  unfold okP
  rw [S0, S2, S3, hsz]
  refine ⟨fun s0 ha => ?_, fun s0 s2 s3 => ?_⟩
  · have hlt := h1.lt (by omega)
    have hc := hP.act t _ ht hlt
    have hpp : pO jv t = (a.th t).pl := by rw [hp]; unfold pR; simp [s0, show ¬ t = 4 by omega]
    have hact : r_oAction jv t (pO jv t) = nI (P.act t (a.th t).pl) := by rw [hpp]; exact hRP.act t _ ht hlt
    rw [hact] at ha ⊢
    have ha : P.act t (a.th t).pl < 6 := (qLt (b := 6) (by omega) (by decide)).1 ha
    have hmm := mmO_eq h hC hP hok ht (Or.inl s0) ha
    have how := hok.ow _ hmlt
    have U : ∀ c, ¬ c = 4 → up2 jv 4 t (nI (pO jv t + 1)) c = jv c := fun c hc => u2n hc
    have e12 : (jv 12 (mmO jv t) = nI t) = ((a.mo (mmO jv t)).ow = t + 1) := by rw [hM.1]; exact propext (qmt (by omega) (by omega))
    unfold okMon okQ
    rw [U 14 (by decide), U 15 (by decide), U 12 (by decide), U 2 (by decide), e12]
    refine ⟨hq4, ⟨hM.2.2.1, fun j hj => ?_⟩, fun hq => ?_, fun hq => ?_, fun k hk q => ?_, fun c4 hw0 hw1 => ?_, fun c4 hw1 => ?_⟩
    · have hv := hok.q _ hmlt _ (getD_mem hj)
      have hvT := h.th _ hv.1
      have hvl := (hok.th _ hv.1).lt (by omega)
      have hvt : ¬ (a.mo (mmO jv t)).q.getD j 0 = t := fun q => by rw [q] at hv; omega
      have hvlen := hP.len _ hv.1
      have hvk := ((hok.th _ hv.1).kp1 (Or.inl hv.2.1)).2
      refine ⟨(a.mo (mmO jv t)).q.getD j 0, (a.th ((a.mo (mmO jv t)).q.getD j 0)).pl + 1, hv.1, hM.2.2.2 j hj, ?_, by omega, by omega, ?_⟩
      · rw [u2s]; unfold upd; rw [if_neg hvt, hvT.2.1]; congr 1; unfold pR; rw [if_pos (Or.inl hv.2.1)]
      · rw [show 6 * (a.mo (mmO jv t)).q.getD j 0 + ((a.th ((a.mo (mmO jv t)).q.getD j 0)).pl + 1) - 1 = 6 * (a.mo (mmO jv t)).q.getD j 0 + (a.th ((a.mo (mmO jv t)).q.getD j 0)).pl by omega, hRP.opd _ _ hv.1 hvl (by omega), hv.2.2]
    · have hv := hok.q _ hmlt _ (getD_mem hq)
      rw [vaO_eq h hok hq]
      exact ⟨hv.1, hM.2.2.2 0 hq⟩
    · have hv := hok.q _ hmlt _ (getD_mem (j := (a.mo (mmO jv t)).q.length - 1) (by omega))
      rw [vbO_eq h hok hq]
      exact ⟨hv.1, hM.2.2.2 _ (by omega)⟩
    · have hq : 0 < (a.mo (mmO jv t)).q.length := by omega
      rw [vbO_eq h hok hq, hM.2.2.2 k (by omega)] at q
      have hv := hok.q _ hmlt _ (getD_mem (j := (a.mo (mmO jv t)).q.length - 1) (by omega))
      have hv2 := hok.q _ hmlt _ (getD_mem (j := k) (show k < (a.mo (mmO jv t)).q.length by omega))
      have := nodup_get (hok.nd _ hmlt) (show k < (a.mo (mmO jv t)).q.length by omega) (show (a.mo (mmO jv t)).q.length - 1 < (a.mo (mmO jv t)).q.length by omega) ((qE (by omega) (by omega)).1 q)
      omega
    · have c4 : P.act t (a.th t).pl = 4 := (qE (b := 4) (by omega) (by decide)).1 c4
      have hw0 : 0 < w := (qLt (a := 0) (by decide) (by omega)).1 hw0
      rw [hmm] at hw1 ⊢
      unfold aMay at hm
      rw [if_pos s0, if_pos c4, if_pos hw1] at hm
      by_cases q : (a.mo (P.opd t (a.th t).pl)).q.length = 0
      · rw [if_pos q, if_neg (by omega)] at hm; exact absurd rfl hm
      · omega
    · exact hok.len3 hmlt ht (by omega)
  · have s1 : (a.th t).st = 1 := by
      by_cases s1 : (a.th t).st = 1
      · exact s1
      · exact absurd (by unfold aMay; rw [if_neg s0, if_neg s1, if_neg s2, if_neg s3]) hm
    have hlt := h1.lt (by omega)
    have hk := (h1.kp1 (Or.inl s1)).2
    have hmm := mmO_eq h hC hP hok ht (Or.inr (Or.inl s1)) (by omega)
    have hk0 := k0O_eq h hok ht (by rw [hmm]; exact hok.wt t ht s1)
    have hpp : pO jv t = (a.th t).pl + 1 := by rw [hp]; unfold pR; simp [s1]
    unfold okLv
    rw [hpp]
    refine ⟨by omega, ?_, hM.2.2.1, hq4, hk0.1, ?_, hk0.2.2⟩
    · rw [show 6 * t + ((a.th t).pl + 1) - 1 = 6 * t + (a.th t).pl by omega, hmm]
      exact hRP.opd t _ ht hlt (by omega)
    · rw [hM.2.2.2 _ hk0.1, hk0.2.1]
end
def SRr (x : RM) (P : PR) (s : SS) : Prop := (x.1 0 19 = nI s.N) ∧ (∀ i j, i < s.N → j < 5 → x.2 17 (5 * i + j) = lI (cR (s.σ i) j)) ∧ (x.1 0 20 = nI s.fin) ∧ (x.1 0 21 = nI s.all) ∧ (x.1 0 22 = nI s.mst) ∧ (∀ t, t < 4 → x.1 19 t = nI (s.bl t)) ∧ (x.1 0 23 = nI s.L) ∧ (∀ j, j < s.L → x.2 18 j = s.f j) ∧ (RP x.1 P)
theorem SRr.n {x : RM} {P : PR} {s : SS} (h9 : SRr x P s) : x.1 0 19 = nI s.N := h9.1
theorem SRr.row {x : RM} {P : PR} {s : SS} (h9 : SRr x P s) : ∀ i j, i < s.N → j < 5 → x.2 17 (5 * i + j) = lI (cR (s.σ i) j) := h9.2.1
theorem SRr.fin {x : RM} {P : PR} {s : SS} (h9 : SRr x P s) : x.1 0 20 = nI s.fin := h9.2.2.1
theorem SRr.all {x : RM} {P : PR} {s : SS} (h9 : SRr x P s) : x.1 0 21 = nI s.all := h9.2.2.2.1
theorem SRr.mst {x : RM} {P : PR} {s : SS} (h9 : SRr x P s) : x.1 0 22 = nI s.mst := h9.2.2.2.2.1
theorem SRr.bl {x : RM} {P : PR} {s : SS} (h9 : SRr x P s) : ∀ t, t < 4 → x.1 19 t = nI (s.bl t) := h9.2.2.2.2.2.1
theorem SRr.len {x : RM} {P : PR} {s : SS} (h9 : SRr x P s) : x.1 0 23 = nI s.L := h9.2.2.2.2.2.2.1
theorem SRr.out {x : RM} {P : PR} {s : SS} (h9 : SRr x P s) : ∀ j, j < s.L → x.2 18 j = s.f j := h9.2.2.2.2.2.2.2.1
theorem SRr.rp {x : RM} {P : PR} {s : SS} (h9 : SRr x P s) : RP x.1 P := h9.2.2.2.2.2.2.2.2
def RF (x x' : RM) : Prop := (∀ c, ¬ c = 0 → ¬ (4 ≤ c ∧ c < 16) → ¬ c = 19 → x'.1 c = x.1 c) ∧ (∀ k, k < 19 ∨ 24 ≤ k → x'.1 0 k = x.1 0 k) ∧ (∀ c, ¬ c = 8 → ¬ c = 17 → ¬ c = 18 → x'.2 c = x.2 c)
theorem RF.iv {x x' : RM} (h9 : RF x x') : ∀ c, ¬ c = 0 → ¬ (4 ≤ c ∧ c < 16) → ¬ c = 19 → x'.1 c = x.1 c := h9.1
theorem RF.i0 {x x' : RM} (h9 : RF x x') : ∀ k, k < 19 ∨ 24 ≤ k → x'.1 0 k = x.1 0 k := h9.2.1
theorem RF.lv {x x' : RM} (h9 : RF x x') : ∀ c, ¬ c = 8 → ¬ c = 17 → ¬ c = 18 → x'.2 c = x.2 c := h9.2.2
theorem RF.trans {x y z : RM} (h : RF x y) (h' : RF y z) : RF x z :=
  ⟨fun c h1 h2 h3 => by rw [h'.iv c h1 h2 h3, h.iv c h1 h2 h3],
   fun k hk => by rw [h'.i0 k hk, h.i0 k hk],
   fun c h1 h2 h3 => by rw [h'.lv c h1 h2 h3, h.lv c h1 h2 h3]⟩
theorem RR.rf {x y : RM} {e : Nat} {a : AS} (h : RR x.1 x.2 y.1 y.2 e a) : RF x y :=
  ⟨fun c h1 h2 h3 => h.fr c (by omega),
   fun k _ => by rw [h.fr 0 (by decide)],
   fun c h1 _ _ => h.fl c h1⟩
theorem SRr.rr {x y : RM} {P : PR} {s : SS} {e : Nat} {a : AS} (h : SRr x P s) (hr : RR x.1 x.2 y.1 y.2 e a) : SRr y P s :=
  ⟨by rw [hr.fr 0 (by decide)]; exact h.n,
   fun i j hi hj => by rw [hr.fl 17 (by decide)]; exact h.row i j hi hj,
   by rw [hr.fr 0 (by decide)]; exact h.fin,
   by rw [hr.fr 0 (by decide)]; exact h.all,
   by rw [hr.fr 0 (by decide)]; exact h.mst,
   fun t ht => by rw [hr.fr 19 (by decide)]; exact h.bl t ht,
   by rw [hr.fr 0 (by decide)]; exact h.len,
   fun j hj => by rw [hr.fl 18 (by decide)]; exact h.out j hj,
   hr.rp h.rp⟩
theorem okAS.p8 {P : PR} {a : AS} (hP : okPR P) (h : okAS P a) : ∀ t, t < 4 → pR 4 t (a.th t) < 8 := fun _ ht => pR_lt hP h ht
theorem SRr.un {x : RM} {P : PR} {s : SS} (h : SRr x P s) (hP : okPR P) {k : Nat} (hk : k < s.N) (hok : okAS P (s.σ k)) : RR x.1 x.2 (unR k x).1 (unR k x).2 4 (s.σ k) := unp_eq (hok.b hP) (hok.p8 hP) (by decide) (fun j hj => h.row k j hk hj)
theorem cR_lt {P : PR} {a : AS} (hP : okPR P) (h : okAS P a) {j : Nat} (hj : j < 5) : cR a j < 2 ^ 37 := by
  unfold cR
  by_cases q : j < 4
  · rw [if_pos q]; exact tR_lt (h.bth hP q) (h.p8 hP j q)
  · rw [if_neg q]; have := mR_lt (h.b hP); omega
theorem SRr.meet {x : RM} {P : PR} {s : SS} (h : SRr x P s) (hP : okPR P) (hN : s.N ≤ 3001) (hok : ∀ i, i < s.N → okAS P (s.σ i)) {jv0 : Nat → Nat → Int32} {lv0 : Nat → Nat → Int64} {b : AS} (hr : RR jv0 lv0 x.1 x.2 4 b) (hb : okAS P b) : SRr (meR x) P (SS.mk ((addA (s.N, s.σ) b).1) ((addA (s.N, s.σ) b).2) s.f s.L s.fin s.all s.mst s.bl) ∧ RF x (meR x) ∧ okN x.1 := by
  have hn : nS x.1 = s.N := by unfold nS; rw [h.n, qC (by omega)]
  have hokN : okN x.1 := by unfold okN; rw [hn]; exact ⟨h.n, hN⟩
  obtain ⟨p1, p2, p3⟩ := pack_eq (tc := 17) (az := 5 * s.N) hr (hb.b hP) (hb.p8 hP) (by decide)
  have e1 : (meR x).1 = m_oMeet x.1 x.2 s.N := by unfold meR; rw [hn]
  have e2 : (meR x).2 = n_oMeet x.1 x.2 s.N := by unfold meR; rw [hn]
  by_cases q : 3000 < s.N
  · have e3 : m_oMeet x.1 x.2 s.N = x.1 := by unfold m_oMeet; rw [if_pos (Or.inl q)]
    have e4 : n_oMeet x.1 x.2 s.N = x.2 := by unfold n_oMeet; rw [if_pos q]
    have e5 : addA (s.N, s.σ) b = (s.N, s.σ) := by unfold addA; rw [if_pos (Or.inl q)]
    have e6 : meR x = x := Prod.ext (by rw [e1, e3]) (by rw [e2, e4])
    rw [e5, e6]
    exact ⟨h, ⟨fun _ _ _ _ => rfl, fun _ _ => rfl, fun _ _ _ _ => rfl⟩, hokN⟩
  · have e4 : (meR x).2 = n_oPack x.1 x.2 17 (5 * s.N) := by rw [e2]; unfold n_oMeet; rw [if_neg q]
    generalize hL : n_oPack x.1 x.2 17 (5 * s.N) = L at *
    have hrow : ∀ i j, i < s.N → j < 5 → L 17 (5 * i + j) = lI (cR (s.σ i) j) := fun i j hi hj => by rw [p3 _ (by omega)]; exact h.row i j hi hj
    have hsame : ∀ i, i < s.N → (sameR L i s.N ↔ eqv (s.σ i) b) := fun i hi => by
      unfold sameR
      have c1 := fun j hj => hrow i j hi hj
      rw [show L 17 (5 * i) = lI (cR (s.σ i) 0) from c1 0 (by decide), c1 1 (by decide), c1 2 (by decide), c1 3 (by decide), c1 4 (by decide), show L 17 (5 * s.N) = lI (cR b 0) from p1 0 (by decide), p1 1 (by decide), p1 2 (by decide), p1 3 (by decide), p1 4 (by decide)]
      have inj : ∀ j, j < 5 → (lI (cR (s.σ i) j) = lI (cR b j) ↔ cR (s.σ i) j = cR b j) := fun j hj => by
        have := cR_lt hP (hok i hi) hj
        have := cR_lt hP hb hj
        exact lE (by omega) (by omega)
      rw [inj 0 (by decide), inj 1 (by decide), inj 2 (by decide), inj 3 (by decide), inj 4 (by decide)]
      constructor
      · intro hh
        refine cR_inj ((hok i hi).b hP) (hb.b hP) ((hok i hi).p8 hP) (hb.p8 hP) (fun j hj => ?_)
        have : j = 0 ∨ j = 1 ∨ j = 2 ∨ j = 3 ∨ j = 4 := by omega
        rcases this with q | q | q | q | q <;> subst q
        · exact hh.1
        · exact hh.2.1
        · exact hh.2.2.1
        · exact hh.2.2.2.1
        · exact hh.2.2.2.2
      · intro hh
        exact ⟨cR_eqv hh, cR_eqv hh, cR_eqv hh, cR_eqv hh, cR_eqv hh⟩
    by_cases q2 : ∃ i, i < s.N ∧ eqv (s.σ i) b
    · have e3 : (meR x).1 = x.1 := by
        rw [e1]; unfold m_oMeet
        rw [if_pos (Or.inr (by obtain ⟨i, hi, he⟩ := q2; rw [hL]; exact ⟨i, hi, (hsame i hi).2 he⟩))]
      have e5 : addA (s.N, s.σ) b = (s.N, s.σ) := by unfold addA; rw [if_pos (Or.inr q2)]
      rw [e5]
      refine ⟨⟨by rw [e3]; exact h.n, fun i j hi hj => by rw [e4]; exact hrow i j hi hj, by rw [e3]; exact h.fin, by rw [e3]; exact h.all, by rw [e3]; exact h.mst, fun t ht => by rw [e3]; exact h.bl t ht, by rw [e3]; exact h.len, fun j hj => by rw [e4, p2 18 (by decide)]; exact h.out j hj, by rw [e3]; exact h.rp⟩, ⟨fun _ _ _ _ => by rw [e3], fun _ _ => by rw [e3], fun c c1 c2 c3 => by rw [e4, p2 c c2]⟩, hokN⟩
    · have e3 : (meR x).1 = up2 x.1 0 19 (nI (s.N + 1)) := by
        rw [e1]; unfold m_oMeet
        rw [if_neg (fun e => by rcases e with e | e; exact q e; rw [hL] at e; obtain ⟨i, hi, he⟩ := e; exact q2 ⟨i, hi, (hsame i hi).1 he⟩)]
      have e5 : addA (s.N, s.σ) b = (s.N + 1, fun i => if i = s.N then b else s.σ i) := by
        unfold addA; rw [if_neg (fun e => by rcases e with e | e; exact q e; exact q2 e)]
      rw [e5]
      have Z : ∀ k, ¬ k = 19 → (meR x).1 0 k = x.1 0 k := fun k hk => by rw [e3, u2s]; simp only [upd, if_neg hk]
      have Y : ∀ c, ¬ c = 0 → (meR x).1 c = x.1 c := fun c hc => by rw [e3, u2n hc]
      refine ⟨⟨by rw [e3, u2s]; simp [upd], fun i j hi hj => ?_, by rw [Z 20 (by decide)]; exact h.fin, by rw [Z 21 (by decide)]; exact h.all, by rw [Z 22 (by decide)]; exact h.mst, fun t ht => by rw [Y 19 (by decide)]; exact h.bl t ht, by rw [Z 23 (by decide)]; exact h.len, fun j hj => by rw [e4, p2 18 (by decide)]; exact h.out j hj, ?_⟩, ⟨fun c c1 _ _ => Y c c1, fun k hk => Z k (by omega), fun c c1 c2 c3 => by rw [e4, p2 c c2]⟩, hokN⟩
      · have hi : i < s.N + 1 := hi
        show (meR x).2 17 (5 * i + j) = lI (cR (if i = s.N then b else s.σ i) j)
        rw [e4]
        by_cases q3 : i = s.N
        · rw [if_pos q3, q3]; exact p1 j hj
        · rw [if_neg q3]; exact hrow i j (by omega) hj
      · exact ⟨fun t ht => by rw [Y 3 (by decide)]; exact h.rp.len t ht, fun t p ht hp => by rw [Y 1 (by decide)]; exact h.rp.act t p ht hp, fun t p ht hp hh => by rw [Y 2 (by decide)]; exact h.rp.opd t p ht hp hh, by rw [Z 0 (by decide)]; exact h.rp.loose⟩
