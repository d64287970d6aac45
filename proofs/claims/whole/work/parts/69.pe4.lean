theorem oForget_sp (jv : Nat → Nat → Int32) : (∀ c, ¬ c = 0 → ¬ c = 19 → m_oForget jv c = jv c) ∧ (∀ k, k < 19 ∨ 24 ≤ k → m_oForget jv 0 k = jv 0 k) ∧ (∀ k, 19 ≤ k → k < 24 → m_oForget jv 0 k = 0) ∧ ∀ t, t < 4 → m_oForget jv 19 t = 0 := by
  unfold m_oForget
  refine ⟨fun c h1 h2 => ?_, fun k hk => ?_, fun k h1 h2 => ?_, fun t ht => ?_⟩
  · rw [u2n h2, u2n h2, u2n h2, u2n h2, u2n h1, u2n h1, u2n h1, u2n h1, u2n h1]
  · rw [u2n (by decide), u2n (by decide), u2n (by decide), u2n (by decide), u2w (by omega), u2w (by omega), u2w (by omega), u2w (by omega), u2w (by omega)]
  · have : k = 19 ∨ k = 20 ∨ k = 21 ∨ k = 22 ∨ k = 23 := by omega
    rcases this with q | q | q | q | q <;> subst q <;> simp [up2, upd]
  · have : t = 0 ∨ t = 1 ∨ t = 2 ∨ t = 3 := by omega
    rcases this with q | q | q | q <;> subst q <;> simp [up2, upd]
theorem RP.forget {jv : Nat → Nat → Int32} {P : PR} (h : RP jv P) : RP (m_oForget jv) P := by
  obtain ⟨f1, f2, _, _⟩ := oForget_sp jv
  exact ⟨fun t ht => by rw [f1 3 (by decide) (by decide)]; exact h.len t ht, fun t p ht hp => by rw [f1 1 (by decide) (by decide)]; exact h.act t p ht hp, fun t p ht hp hh => by rw [f1 2 (by decide) (by decide)]; exact h.opd t p ht hp hh, by rw [f2 0 (by decide)]; exact h.loose⟩
theorem SRr.forget {x : RM} {P : PR} {σ : Nat → AS} {f : Nat → Int64} (h : RP x.1 P) : SRr (m_oForget x.1, x.2) P ⟨0, σ, f, 0, 0, 0, 0, fun _ => 0⟩ ∧ RF x (m_oForget x.1, x.2) := by
  obtain ⟨f1, f2, f3, f4⟩ := oForget_sp x.1
  exact ⟨⟨f3 19 (by decide) (by decide), fun i j hi _ => absurd hi (Nat.not_lt_zero _), f3 20 (by decide) (by decide), f3 21 (by decide) (by decide), f3 22 (by decide) (by decide), fun t ht => f4 t ht, f3 23 (by decide) (by decide), fun j hj => absurd hj (Nat.not_lt_zero _), h.forget⟩, ⟨fun c c1 _ c3 => f1 c c1 c3, fun k hk => f2 k hk, fun _ _ _ _ => rfl⟩⟩
theorem e0_sim {x : RM} {P : PR} (hP : okPR P) (hC : RP x.1 P) : SRr (eI x 0) P (s0A P) ∧ RF x (eI x 0) ∧ okN (fsR x).1 := by
  obtain ⟨h1, h2⟩ := SRr.forget (x := x) (P := P) (σ := fun _ => aBeg P) (f := fun _ => 0) hC
  have h3 : RR (m_oForget x.1) x.2 (fsR x).1 (fsR x).2 4 (aBeg P) := first_eq hP hC.forget
  have h4 := SRr.rr (y := fsR x) h1 h3
  obtain ⟨m1, m2, m3⟩ := h4.meet hP (by show 0 ≤ 3001; decide) (fun i hi => absurd hi (Nat.not_lt_zero _)) h3 okAS.beg
  refine ⟨?_, (h2.trans (RR.rf (x := (m_oForget x.1, x.2)) (y := fsR x) h3)).trans m2, m3⟩
  have e : addA (0, fun _ => aBeg P) (aBeg P) = (1, fun _ => aBeg P) := by
    unfold addA
    rw [if_neg (fun e => by rcases e with e | ⟨i, hi, _⟩; exact absurd e (show ¬ 3000 < 0 by decide); exact absurd hi (Nat.not_lt_zero _))]
    simp only [ifsame]
  have m1 : SRr (eI x 0) P ⟨(addA (0, fun _ => aBeg P) (aBeg P)).1, (addA (0, fun _ => aBeg P) (aBeg P)).2, fun _ => 0, 0, 0, 0, 0, fun _ => 0⟩ := m1
  rw [e] at m1
  exact m1
theorem eI_sim {x : RM} {P : PR} (hP : okPR P) (hC : RP x.1 P) : ∀ j, j ≤ 3001 → (∀ i, i < j → i < (eA P i).N) → SRr (eI x j) P (eA P j) ∧ RF x (eI x j)
  | 0, _, _ => ⟨(e0_sim hP hC).1, (e0_sim hP hC).2.1⟩
  | j + 1, hj, h => by
    obtain ⟨h1, h2⟩ := eI_sim hP hC j (by omega) (fun i hi => h i (by omega))
    obtain ⟨g1, g2, _⟩ := goR_sim h1 hP (eA_gs hP j (fun i hi => h i (by omega))) (h j (by omega)) (by omega)
    exact ⟨g1, h2.trans g2⟩
theorem ref_through {x : RM} {P : PR} (hP : okPR P) (hC : RP x.1 P) {J : Nat} (h1 : ∀ j, j < J → j < (eA P j).N ∧ (eA P j).N ≤ 3000) (h2 : ¬ (J < (eA P J).N ∧ (eA P J).N ≤ 3000)) (h3 : J ≤ 3000) : okE x J ∧ r_oExplore x J = rA (eA P J) ∧ SRr (exR x J) P (oA (eA P J)) ∧ RF x (exR x J) := by
  have hlt : ∀ j, j ≤ J → ∀ i, i < j → i < (eA P i).N := fun j hj i hi => (h1 i (by omega)).1
  have sim := fun j (hj : j ≤ J) => eI_sim (x := x) hP hC j (by omega) (hlt j hj)
  have gs := fun j (hj : j ≤ J) => eA_gs hP j (hlt j hj)
  have hnS : ∀ j, j ≤ J → nS (eI x j).1 = (eA P j).N := fun j hj => by
    have := (gs j hj).N
    unfold nS; rw [(sim j hj).1.n, qC (by omega)]
  have hN := (gs J (Nat.le_refl _)).N
  have hc : (3000 < nI (nS (eI x J).1)) = (3000 < (eA P J).N) := by rw [hnS J (Nat.le_refl _)]; exact propext (qLt (a := 3000) (by decide) (by omega))
  obtain ⟨g1, g2⟩ := sim J (Nat.le_refl _)
  refine ⟨⟨(e0_sim hP hC).2.2, fun j hj => ?_, fun j hj => ?_, ?_, by omega⟩, ?_, ?_⟩
  · unfold okN; rw [hnS j hj]; exact ⟨(sim j hj).1.n, (gs j hj).N⟩
  · rw [hnS j (by omega)]
    exact ⟨(h1 j hj).1, (h1 j hj).2, (goR_sim (sim j (by omega)).1 hP (gs j (by omega)) (h1 j hj).1 (by omega)).2.2⟩
  · rw [hnS J (Nat.le_refl _)]; exact h2
  · unfold r_oExplore rA
    simp only [hc]
    split
    · rfl
    · exact g1.len
  · unfold exR oA
    simp only [hc]
    split
    · obtain ⟨k1, k2⟩ := SRr.forget (x := eI x J) (P := P) (σ := (eA P J).σ) (f := (eA P J).f) g1.rp
      exact ⟨k1, g2.trans k2⟩
    · exact ⟨g1, g2⟩
