theorem cf3_sp {iv0 m : Nat → Nat → Int32} {b : AS} (h : CR iv0 m 1 b) {P : PR} (hok : okAS P b) : (∀ c, ¬ c = 36 → ¬ c = 37 → cf3 m c = m c) ∧ (∀ u, u < 4 → cf3 m 37 u = if (b.th u).st = 4 then m 37 u else 1) ∧ cf3 m 36 4 = m 36 4 + 1 ∧ cf3 m 36 5 = m 36 5 + nI (aE b) ∧ ∀ k, ¬ k = 4 → ¬ k = 5 → cf3 m 36 k = m 36 k := by
  obtain ⟨h1, h2, h3⟩ := cfB_sp h hok 4 (Nat.le_refl _)
  rw [aE_all rfl] at h3
  have e36 : cfB m 4 36 = m 36 := h1 36 (by decide)
  have a1 : ∀ c, ¬ c = 36 → ¬ c = 37 → cf2 m c = m c := fun c q1 q2 => by unfold cf2; rw [u2n q1, h1 c q2]
  have a2 : ∀ u, u < 4 → cf2 m 37 u = if (b.th u).st = 4 then m 37 u else 1 := fun u hu => by
    unfold cf2
    rw [u2n (by decide), h2 u]
    by_cases q : (b.th u).st = 4
    · rw [if_pos q, if_neg (fun e => e.2 q)]
    · rw [if_neg q, if_pos ⟨hu, q⟩]
  have a3 : cf2 m 36 4 = m 36 4 + 1 := by unfold cf2; rw [u2s, e36]; simp [upd]
  have a4 : ∀ k, ¬ k = 4 → cf2 m 36 k = m 36 k := fun k hk => by unfold cf2; rw [u2s, e36]; simp [upd, hk]
  unfold cf3
  rw [h3]
  have haE : aE b = 0 ∨ aE b = 1 := by unfold aE; split <;> simp
  rcases haE with q | q
  · rw [q, if_pos (show nI 0 = 0 from rfl)]
    refine ⟨a1, a2, a3, ?_, fun k k1 _ => a4 k k1⟩
    rw [a4 5 (by decide), show nI 0 = 0 from rfl, Int32.add_zero]
  · rw [q, if_neg (by decide)]
    refine ⟨fun c q1 q2 => by rw [u2n q1, a1 c q1 q2], fun u hu => by rw [u2n (by decide), a2 u hu], ?_, ?_, fun k k1 k2 => ?_⟩
    · rw [u2s]; simp only [upd, if_neg (show ¬ (4 : Nat) = 5 by decide)]; exact a3
    · rw [u2s]; simp only [upd, if_true]; rw [a4 5 (by decide)]; rfl
    · rw [u2s]; simp only [upd, if_neg k2]; exact a4 k k1
def TF (x x' : KM2) : Prop := (∀ c, ¬ c = 36 → ¬ c = 37 → ¬ c = 38 → ¬ c = 40 → ¬ (24 ≤ c ∧ c < 28) → ¬ (30 ≤ c ∧ c < 32) → ¬ (34 ≤ c ∧ c < 36) → x'.2.1 c = x.2.1 c) ∧ (∀ k, ¬ k = 4 → ¬ k = 5 → ¬ k = 6 → ¬ k = 10 → x'.2.1 36 k = x.2.1 36 k) ∧ (∀ c, ¬ c = 39 → ¬ c = 41 → x'.2.2 c = x.2.2 c) ∧ (∀ c, ¬ c = 39 → ¬ c = 40 → ¬ c = 41 → x'.1 c = x.1 c) ∧ (capE (x'.1 40)) ∧ (x'.1 39 = x'.1 40 * 3) ∧ (capO (x'.1 41)) ∧ (x.1 40 ≤ x'.1 40) ∧ (x.1 41 ≤ x'.1 41)
theorem TF.iv {x x' : KM2} (h9 : TF x x') : ∀ c, ¬ c = 36 → ¬ c = 37 → ¬ c = 38 → ¬ c = 40 → ¬ (24 ≤ c ∧ c < 28) → ¬ (30 ≤ c ∧ c < 32) → ¬ (34 ≤ c ∧ c < 36) → x'.2.1 c = x.2.1 c := h9.1
theorem TF.i36 {x x' : KM2} (h9 : TF x x') : ∀ k, ¬ k = 4 → ¬ k = 5 → ¬ k = 6 → ¬ k = 10 → x'.2.1 36 k = x.2.1 36 k := h9.2.1
theorem TF.lv {x x' : KM2} (h9 : TF x x') : ∀ c, ¬ c = 39 → ¬ c = 41 → x'.2.2 c = x.2.2 c := h9.2.2.1
theorem TF.ln {x x' : KM2} (h9 : TF x x') : ∀ c, ¬ c = 39 → ¬ c = 40 → ¬ c = 41 → x'.1 c = x.1 c := h9.2.2.2.1
theorem TF.e {x x' : KM2} (h9 : TF x x') : capE (x'.1 40) := h9.2.2.2.2.1
theorem TF.l39 {x x' : KM2} (h9 : TF x x') : x'.1 39 = x'.1 40 * 3 := h9.2.2.2.2.2.1
theorem TF.o {x x' : KM2} (h9 : TF x x') : capO (x'.1 41) := h9.2.2.2.2.2.2.1
theorem TF.le {x x' : KM2} (h9 : TF x x') : x.1 40 ≤ x'.1 40 := h9.2.2.2.2.2.2.2.1
theorem TF.lo {x x' : KM2} (h9 : TF x x') : x.1 41 ≤ x'.1 41 := h9.2.2.2.2.2.2.2.2
theorem TF.trans {x y z : KM2} (h : TF x y) (h' : TF y z) : TF x z :=
  ⟨fun c h1 h2 h3 h4 h5 h6 h7 => by rw [h'.iv c h1 h2 h3 h4 h5 h6 h7, h.iv c h1 h2 h3 h4 h5 h6 h7],
   fun k h1 h2 h3 h4 => by rw [h'.i36 k h1 h2 h3 h4, h.i36 k h1 h2 h3 h4],
   fun c h1 h2 => by rw [h'.lv c h1 h2, h.lv c h1 h2],
   fun c h1 h2 h3 => by rw [h'.ln c h1 h2 h3, h.ln c h1 h2 h3],
   h'.e,
   h'.l39,
   h'.o,
   Nat.le_trans h.le h'.le,
   Nat.le_trans h.lo h'.lo⟩
theorem VF.tf {x x' : KM2} (h : VF x x') (ho : capO (x.1 41)) : TF x x' :=
  ⟨fun c _ _ h3 h4 h5 h6 h7 => h.iv c h3 h4 h5 h6 h7,
   fun k _ _ _ _ => by rw [h.iv 36 (by decide) (by decide) (by decide) (by decide) (by decide)],
   fun c h1 _ => h.lv c h1,
   fun c h1 h2 _ => h.ln c h1 h2,
   h.e,
   h.l39,
   by rw [h.ln 41 (by decide) (by decide)]; exact ho,
   h.le,
   by rw [h.ln 41 (by decide) (by decide)]; exact Nat.le_refl _⟩
theorem CP.tf {x x' : KM2} {P : PR} (h : CP x.2.1 P) (hv : TF x x') : CP x'.2.1 P :=
  ⟨fun t ht => by rw [hv.iv _ (by omega) (by omega) (by omega) (by omega) (by omega) (by omega) (by omega)]; exact h.len t ht,
   fun t p ht hp => by rw [hv.iv _ (by omega) (by omega) (by omega) (by omega) (by omega) (by omega) (by omega)]; exact h.act t p ht hp,
   fun t p ht hp hc => by rw [hv.iv _ (by omega) (by omega) (by omega) (by omega) (by omega) (by omega) (by omega)]; exact h.opd t p ht hp hc,
   fun m hm => by rw [hv.iv _ (by omega) (by omega) (by omega) (by omega) (by omega) (by omega) (by omega)]; exact h.loose m hm⟩
theorem log2o {n : Nat} (h : capO n) : n = 2 ^ Nat.log2 n ∧ Nat.log2 n ≤ 12 := by
  rcases h with q | q | q | q | q | q | q | q | q <;> subst q <;> decide
theorem vM_sim {x : KM2} {P : PR} {s : SS} {a : Nat} (h : SC x P s.σ s.N) (hc : CC x s) (hP : okPR P) (hC : CP x.2.1 P) (hg : GS P s a) (ha : a < s.N) (hle : (goA P a s).N ≤ 3000) : okVis a x 16 ∧ SC (vM a x 16) P (goA P a s).σ (goA P a s).N ∧ CC (vM a x 16) (goA P a s) ∧ TF x (vM a x 16) := by
  have hN3 := h.n3
  have hL := hg.L
  have hfi := hg.fin
  have hal := hg.all
  have hms := hg.mst
  rw [(goA_N P a s).1] at hle
  obtain ⟨h1, h2, h3, h4⟩ := vI_sim h hP hC ha 16 (Nat.le_refl _) hle
  have hcap := h.cap
  have hl39 := h.l39
  have he := h.e
  have hh16 := (vA_le (P := P) (b := s.σ a) (y := (s.N, s.σ)) 16).2.2
  have hlec : ∀ c, c ≤ 16 → (vA P (s.σ a) (s.N, s.σ) c).1.1 ≤ 3000 := fun c hc => by
    have := vA_mono' (P := P) (b := s.σ a) (y := (s.N, s.σ)) (16 - c) c
    rw [show c + (16 - c) = 16 by omega] at this
    omega
  have i36 : (vI a x 16).1.2.1 36 = x.2.1 36 := h4.iv 36 (by decide) (by decide) (by decide) (by decide) (by decide)
  have i37 : (vI a x 16).1.2.1 37 = x.2.1 37 := h4.iv 37 (by decide) (by decide) (by decide) (by decide) (by decide)
  have l41 : (vI a x 16).1.2.2 41 = x.2.2 41 := h4.lv 41 (by decide)
  have n41 : (vI a x 16).1.1 41 = x.1 41 := h4.ln 41 (by decide) (by decide)
  have hfK : fK (vI a x 16).1.2.1 = s.L := by unfold fK; rw [i36, hc.len, qC (by omega)]
  have ho := log2o hc.cap
  refine ⟨⟨?_, ?_, Nat.le_refl _, fun c hcc => ?_, fun q => absurd q (by decide), fun _ _ => ?_⟩, ?_⟩
  · rw [hl39]; unfold capE at he; omega
  · rw [hl39]; omega
  · obtain ⟨o1, o2, _⟩ := vI_ok h hP hC ha hcc (hlec c (by omega))
    exact ⟨o1, fun hm => o2 (hlec (c + 1) (by omega)) hm⟩
  · rw [hfK, n41]
    refine ⟨by rw [i36]; exact hc.len, by rw [n41]; exact hc.le, by omega, by rw [n41]; exact ho.1, ho.2⟩
  · unfold vM
    rw [if_pos rfl]
    unfold vF
    have hz : (nI (vI a x 16).2 = 0) = ((vA P (s.σ a) (s.N, s.σ) 16).2 = 0) := by rw [h2]; exact nlit (n := 0) (by omega) (by decide)
    have emx : (if (vI a x 16).1.2.1 36 6 < nI (vI a x 16).2 then nI (vI a x 16).2 else (vI a x 16).1.2.1 36 6) = nI (if s.mst < (vA P (s.σ a) (s.N, s.σ) 16).2 then (vA P (s.σ a) (s.N, s.σ) 16).2 else s.mst) := by
      rw [i36, hc.mst, h2]
      simp only [qLt (a := s.mst) (b := (vA P (s.σ a) (s.N, s.σ) 16).2) (by omega) (by omega)]
      split <;> rfl
    have ev : vmx (vI a x 16).1.2.1 (vI a x 16).2 = up2 (vI a x 16).1.2.1 36 6 (nI (if s.mst < (vA P (s.σ a) (s.N, s.σ) 16).2 then (vA P (s.σ a) (s.N, s.σ) 16).2 else s.mst)) := by
      unfold vmx; rw [emx]
    simp only [hz]
    rw [ev]
    unfold goA
    generalize hY : (vI a x 16).1 = Y at *
    generalize hmx : (if s.mst < (vA P (s.σ a) (s.N, s.σ) 16).2 then (vA P (s.σ a) (s.N, s.σ) 16).2 else s.mst) = mx at *
    have hS : SC (Y.1, up2 Y.2.1 36 6 (nI mx), Y.2.2) P (goB P a s).σ (goB P a s).N := SC.iv (ln := Y.1) (iv := Y.2.1) (lv := Y.2.2) h1 (u2n (by decide)) (u2n (by decide))
    have hCC : CC (Y.1, up2 Y.2.1 36 6 (nI mx), Y.2.2) (goB P a s) := by
      refine ⟨?_, ?_, ?_, fun t ht => ?_, ?_, fun j hj => ?_, ?_, ?_⟩
      · show up2 Y.2.1 36 6 (nI mx) 36 4 = nI s.fin
        rw [u2s, i36]; simp only [upd, if_neg (show ¬ (4 : Nat) = 6 by decide)]; exact hc.fin
      · show up2 Y.2.1 36 6 (nI mx) 36 5 = nI s.all
        rw [u2s, i36]; simp only [upd, if_neg (show ¬ (5 : Nat) = 6 by decide)]; exact hc.all
      · show up2 Y.2.1 36 6 (nI mx) 36 6 = nI (if s.mst < (vA P (s.σ a) (s.N, s.σ) 16).2 then (vA P (s.σ a) (s.N, s.σ) 16).2 else s.mst)
        rw [u2s, hmx]; simp only [upd, if_true]
      · show up2 Y.2.1 36 6 (nI mx) 37 t = nI (s.bl t)
        rw [u2n (by decide), i37]; exact hc.bl t ht
      · show up2 Y.2.1 36 6 (nI mx) 36 10 = nI s.L
        rw [u2s, i36]; simp only [upd, if_neg (show ¬ (10 : Nat) = 6 by decide)]; exact hc.len
      · show Y.2.2 41 j = s.f j
        rw [l41]; exact hc.row j hj
      · show capO (Y.1 41); rw [n41]; exact hc.cap
      · show s.L ≤ Y.1 41; rw [n41]; exact hc.le
    have hTF : TF x (Y.1, up2 Y.2.1 36 6 (nI mx), Y.2.2) := by
      have q := h4.tf hc.cap
      refine ⟨fun c c1 c2 c3 c4 c5 c6 c7 => ?_, fun k k1 k2 k3 k4 => ?_, q.lv, q.ln, q.e, q.l39, q.o, q.le, q.lo⟩
      · show up2 Y.2.1 36 6 (nI mx) c = x.2.1 c
        rw [u2n c1]; exact q.iv c c1 c2 c3 c4 c5 c6 c7
      · show up2 Y.2.1 36 6 (nI mx) 36 k = x.2.1 36 k
        rw [u2s, i36]; simp only [upd, if_neg k3]
    by_cases hz0 : (vA P (s.σ a) (s.N, s.σ) 16).2 = 0
    · rw [if_pos hz0, if_pos hz0, hfK]
      have hok := h.ok a ha
      have hR : CR (up2 Y.2.1 36 6 (nI mx)) (up2 Y.2.1 36 6 (nI mx)) 1 (s.σ a) := ⟨fun t ht => by rw [u2n (by omega)]; exact h3.th t ht, fun m hm => by rw [u2n (by omega), u2n (by omega)]; exact h3.mo m hm, fun _ _ _ _ => rfl⟩
      obtain ⟨f1, f2, f3, f4, f5⟩ := cf3_sp hR hok
      unfold fiM
      generalize hm3 : cf3 (up2 Y.2.1 36 6 (nI mx)) = m3 at *
      have hR3 : CR m3 m3 1 (s.σ a) := ⟨fun t ht => by rw [f1 _ (by omega) (by omega)]; exact hR.th t ht, fun m hm => by rw [f1 _ (by omega) (by omega), f1 _ (by omega) (by omega)]; exact hR.mo m hm, fun _ _ _ _ => rfl⟩
      rw [aOutc_eq hR3 hP hok]
      obtain ⟨f', L', n1, n2, n3, n4, n5, n6, n7, n8, n9, n10⟩ := noM_eq (ln := Y.1) (iv := m3) (lv := Y.2.2) (v := oV (s.σ a)) (f := s.f) (L := s.L) hg.srt (fun j hj => by rw [l41]; exact hc.row j hj) (by omega) (by rw [n41]; exact hc.le) (by rw [n41]; exact hc.cap) (by rw [f5 10 (by decide) (by decide)]; exact hCC.len)
      obtain ⟨u1, u2⟩ := n1.uniq (ntF_note (v := oV (s.σ a)) hg.srt)
      subst u1 u2
      generalize hZ : noM Y.1 m3 Y.2.2 (oV (s.σ a)) s.L = Z at *
      have z38 : Z.2.1 38 = Y.2.1 38 := by rw [n5 38 (by decide), f1 38 (by decide) (by decide), u2n (by decide)]
      have z40 : Z.2.1 40 = Y.2.1 40 := by rw [n5 40 (by decide), f1 40 (by decide) (by decide), u2n (by decide)]
      refine ⟨?_, ?_, ?_⟩
      · show SC Z P (vA P (s.σ a) (s.N, s.σ) 16).1.2 (vA P (s.σ a) (s.N, s.σ) 16).1.1
        refine ⟨by rw [z38]; exact h1.sz, h1.n3, by rw [n7 40 (by decide)]; exact h1.e, by rw [n7 40 (by decide), n7 39 (by decide)]; exact h1.l39, by rw [n7 40 (by decide)]; exact h1.cap, fun i t hi ht => by rw [n6 39 (by decide)]; exact h1.row i t hi ht, ?_, h1.ok, h1.ne⟩
        rw [n7 40 (by decide), z40]
        exact h1.tab.of (fun _ _ => rfl) (fun i _ => hN_eq (fun t _ => by rw [n6 39 (by decide)]))
      · refine ⟨?_, ?_, ?_, fun t ht => ?_, ?_, fun j hj => ?_, n9, n8⟩
        · show Z.2.1 36 4 = nI (s.fin + 1)
          rw [n4 4 (by decide), f3, qS, show up2 Y.2.1 36 6 (nI mx) 36 4 = nI s.fin from hCC.fin]
        · show Z.2.1 36 5 = nI (s.all + aE (s.σ a))
          rw [n4 5 (by decide), f4, qA, show up2 Y.2.1 36 6 (nI mx) 36 5 = nI s.all from hCC.all]
        · show Z.2.1 36 6 = nI (if s.mst < (vA P (s.σ a) (s.N, s.σ) 16).2 then (vA P (s.σ a) (s.N, s.σ) 16).2 else s.mst)
          rw [n4 6 (by decide), f5 6 (by decide) (by decide)]; exact hCC.mst
        · show Z.2.1 37 t = nI (if ((s.σ a).th t).st = 4 then s.bl t else 1)
          rw [n5 37 (by decide), f2 t ht]
          split
          · exact hCC.bl t ht
          · rfl
        · exact n3
        · exact n2 j hj
      · refine ⟨fun c c1 c2 c3 c4 c5 c6 c7 => ?_, fun k k1 k2 k3 k4 => ?_, fun c c1 c2 => ?_, fun c c1 c2 c3 => ?_, ?_, ?_, n9, ?_, ?_⟩
        · rw [n5 c c1, f1 c c1 c2]; exact hTF.iv c c1 c2 c3 c4 c5 c6 c7
        · rw [n4 k k4, f5 k k1 k2]; exact hTF.i36 k k1 k2 k3 k4
        · rw [n6 c c2]; exact hTF.lv c c1 c2
        · rw [n7 c c3]; exact hTF.ln c c1 c2 c3
        · rw [n7 40 (by decide)]; exact hTF.e
        · rw [n7 40 (by decide), n7 39 (by decide)]; exact hTF.l39
        · rw [n7 40 (by decide)]; exact hTF.le
        · have := hTF.lo; exact Nat.le_trans this n10
    · rw [if_neg hz0, if_neg hz0]
      exact ⟨hS, hCC, hTF⟩
theorem vM_full {x : KM2} {P : PR} {s : SS} {a : Nat} (h : SC x P s.σ s.N) (hc : CC x s) (hP : okPR P) (hC : CP x.2.1 P) (ha : a < s.N) (hle : ¬ (goA P a s).N ≤ 3000) : ∃ K, K < 16 ∧ okVis a x K ∧ TF x (vM a x K) ∧ (vM a x K).2.1 38 0 = nI 3000 := by
  rw [(goA_N P a s).1] at hle
  have hN3 := h.n3
  have hcap := h.cap
  have hl39 := h.l39
  have he := h.e
  have key : ∀ c, c ≤ 16 → ¬ (vA P (s.σ a) (s.N, s.σ) c).1.1 ≤ 3000 → ∃ K, K < c ∧ (vA P (s.σ a) (s.N, s.σ) K).1.1 ≤ 3000 ∧ ¬ (vA P (s.σ a) (s.N, s.σ) (K + 1)).1.1 ≤ 3000 := by
    intro c
    induction c with
    | zero => intro _ q; exact absurd hN3 q
    | succ c ih =>
      intro hc q
      by_cases q2 : (vA P (s.σ a) (s.N, s.σ) c).1.1 ≤ 3000
      · exact ⟨c, by omega, q2, q⟩
      · obtain ⟨K, k1, k2⟩ := ih (by omega) q2
        exact ⟨K, by omega, k2⟩
  obtain ⟨K, k1, k2, k3⟩ := key 16 (Nat.le_refl _) hle
  have hlec : ∀ c, c ≤ K → (vA P (s.σ a) (s.N, s.σ) c).1.1 ≤ 3000 := fun c hc => by
    have := vA_mono' (P := P) (b := s.σ a) (y := (s.N, s.σ)) (K - c) c
    rw [show c + (K - c) = K by omega] at this
    omega
  obtain ⟨o1, _, o3⟩ := vI_ok h hP hC ha k1 k2
  obtain ⟨p1, p2, p3, p4⟩ := o3 k3
  refine ⟨K, k1, ⟨?_, ?_, by omega, fun c hcc => ?_, fun _ => ⟨o1, p1, p2⟩, fun q => by omega⟩, ?_⟩
  · rw [hl39]; unfold capE at he; omega
  · rw [hl39]; omega
  · obtain ⟨o1, o2, _⟩ := vI_ok h hP hC ha (show c < 16 by omega) (hlec c (by omega))
    exact ⟨o1, fun hm => o2 (hlec (c + 1) (by omega)) hm⟩
  · unfold vM
    rw [if_neg (by omega)]
    exact ⟨p3.tf hc.cap, p4⟩
