def XF (x x' : KM2) : Prop := (∀ c, ¬ c = 36 → ¬ c = 37 → ¬ c = 38 → ¬ c = 40 → ¬ (24 ≤ c ∧ c < 28) → ¬ (30 ≤ c ∧ c < 32) → ¬ (34 ≤ c ∧ c < 36) → x'.2.1 c = x.2.1 c) ∧ (capX x') ∧ (x.1 40 ≤ x'.1 40) ∧ (x.1 41 ≤ x'.1 41) ∧ (∀ c, ¬ c = 39 → ¬ c = 40 → ¬ c = 41 → x'.1 c = x.1 c)
theorem XF.iv {x x' : KM2} (h9 : XF x x') : ∀ c, ¬ c = 36 → ¬ c = 37 → ¬ c = 38 → ¬ c = 40 → ¬ (24 ≤ c ∧ c < 28) → ¬ (30 ≤ c ∧ c < 32) → ¬ (34 ≤ c ∧ c < 36) → x'.2.1 c = x.2.1 c := h9.1
theorem XF.cap {x x' : KM2} (h9 : XF x x') : capX x' := h9.2.1
theorem XF.le {x x' : KM2} (h9 : XF x x') : x.1 40 ≤ x'.1 40 := h9.2.2.1
theorem XF.lo {x x' : KM2} (h9 : XF x x') : x.1 41 ≤ x'.1 41 := h9.2.2.2.1
theorem XF.ln {x x' : KM2} (h9 : XF x x') : ∀ c, ¬ c = 39 → ¬ c = 40 → ¬ c = 41 → x'.1 c = x.1 c := h9.2.2.2.2
noncomputable def oA (s : SS) : SS := if 3000 < s.N then ⟨0, s.σ, s.f, 0, 0, 0, 0, fun _ => 0⟩ else s
def rA (s : SS) : Int32 := if 3000 < s.N then -2 else nI s.L
def CD (x : KM2) (s : SS) : Prop := (CC x (oA s)) ∧ (x.2.1 36 1 = 1) ∧ (x.2.1 36 2 = rA s) ∧ (x.2.1 36 3 = nI (oA s).N)
theorem CD.cc {x : KM2} {s : SS} (h9 : CD x s) : CC x (oA s) := h9.1
theorem CD.done {x : KM2} {s : SS} (h9 : CD x s) : x.2.1 36 1 = 1 := h9.2.1
theorem CD.ans {x : KM2} {s : SS} (h9 : CD x s) : x.2.1 36 2 = rA s := h9.2.2.1
theorem CD.cnt {x : KM2} {s : SS} (h9 : CD x s) : x.2.1 36 3 = nI (oA s).N := h9.2.2.2
theorem forget_sp (iv : Nat → Nat → Int32) : (∀ c, ¬ c = 36 → ¬ c = 37 → m_hForget iv c = iv c) ∧ (∀ k, k = 1 ∨ k = 3 ∨ k = 4 ∨ k = 5 ∨ k = 6 ∨ k = 10 → m_hForget iv 36 k = 0) ∧ (∀ t, t < 4 → m_hForget iv 37 t = 0) ∧ m_hForget iv 36 2 = iv 36 2 := by
  unfold m_hForget
  refine ⟨fun c h1 h2 => ?_, fun k hk => ?_, fun t ht => ?_, ?_⟩
  · rw [u2n h2, u2n h2, u2n h2, u2n h2, u2n h1, u2n h1, u2n h1, u2n h1, u2n h1, u2n h1]
  · rcases hk with q | q | q | q | q | q <;> subst q <;> simp [up2, upd]
  · have : t = 0 ∨ t = 1 ∨ t = 2 ∨ t = 3 := by omega
    rcases this with q | q | q | q <;> subst q <;> simp [up2, upd]
  · simp [up2, upd]
theorem class_through {x : KM2} {P : PR} (hP : okPR P) (hC : CP x.2.1 P) (hx : capX x) (hc : CC x (s0A P)) {J : Nat} (h1 : ∀ j, j < J → j < (eA P j).N ∧ (eA P j).N ≤ 3000) (h2 : ¬ (J < (eA P J).N ∧ (eA P J).N ≤ 3000)) (h3 : J ≤ 3000) : ∃ Kf, okTh x Kf J ∧ CD (thM x Kf J) (eA P J) ∧ XF x (thM x Kf J) := by
  obtain ⟨v1, v2, v3, v4, v5⟩ := t0_sim hP hC hx hc
  have he := hx.e
  have h40 : x.1 40 < 2 ^ 31 := by unfold capE at he; omega
  have hsz : ∀ {y : KM2} {n : Nat}, y.2.1 38 0 = nI n → n ≤ 3000 → szK y.2.1 = n := fun {y n} q1 q2 => by unfold szK; rw [q1, qC (by omega)]
  by_cases hov : (eA P J).N ≤ 3000
  · -- it came to its end
    have hall : ∀ i, i ≤ J → (eA P i).N ≤ 3000 := fun i hi => by
      by_cases e : i = J
      · rw [e]; exact hov
      · exact (h1 i (by omega)).2
    have sim := fun j (hj : j ≤ J) => tI_sim hP hC hx hc j (fun i hi => (h1 i (by omega)).1) (fun i hi => hall i (by omega))
    have szj : ∀ j, j ≤ J → szK (tI x (fun _ => 16) j).2.1 = (eA P j).N := fun j hj => hsz (sim j hj).1.sz (hall j hj)
    have hr : ∀ j, rmv (t0R x) (fun _ => 16) j = 1 := fun j => by
      cases j with
      | zero => exact v2
      | succ j => rfl
    obtain ⟨g1, g2, g3⟩ := sim J (Nat.le_refl _)
    refine ⟨fun _ => 16, ⟨h40, v1, fun j hj => ?_, fun j hj => ?_, Or.inr ?_, h3⟩, ?_, ?_⟩
    · rw [szj j hj]; exact ⟨(sim j hj).1.sz, hall j hj⟩
    · rw [hr j, szj j (by omega)]
      obtain ⟨q1, q2, q3⟩ := sim j (by omega)
      exact ⟨by decide, (h1 j hj).1, (vM_sim q1 q2 hP (hC.tf q3) (eA_gs hP j (fun i hi => (h1 i (by omega)).1)) (h1 j hj).1 (hall (j + 1) (by omega))).1⟩
    · rw [szj J (Nat.le_refl _)]; exact fun q => h2 ⟨q, hov⟩
    · unfold thM tF
      rw [hr J, if_neg (by decide)]
      generalize tI x (fun _ => 16) J = Y at *
      have ho : oA (eA P J) = eA P J := by unfold oA; rw [if_neg (by omega)]
      have hra : rA (eA P J) = nI (eA P J).L := by unfold rA; rw [if_neg (by omega)]
      have K : ∀ k, ¬ k = 1 → ¬ k = 2 → ¬ k = 3 → up2 (up2 (up2 Y.2.1 36 3 (r_sSize Y.2.1)) 36 2 ((up2 Y.2.1 36 3 (r_sSize Y.2.1)) 36 10)) 36 1 1 36 k = Y.2.1 36 k := fun k k1 k2 k3 => by simp [up2, upd, k1, k2, k3]
      have C : ∀ c, ¬ c = 36 → up2 (up2 (up2 Y.2.1 36 3 (r_sSize Y.2.1)) 36 2 ((up2 Y.2.1 36 3 (r_sSize Y.2.1)) 36 10)) 36 1 1 c = Y.2.1 c := fun c c1 => by rw [u2n c1, u2n c1, u2n c1]
      refine ⟨?_, ?_, ?_, ?_⟩
      · rw [ho]
        exact ⟨(K 4 (by decide) (by decide) (by decide)).trans g2.fin, (K 5 (by decide) (by decide) (by decide)).trans g2.all, (K 6 (by decide) (by decide) (by decide)).trans g2.mst, fun t ht => (congrFun (C 37 (by decide)) t).trans (g2.bl t ht), (K 10 (by decide) (by decide) (by decide)).trans g2.len, g2.row, g2.cap, g2.le⟩
      · simp [up2, upd]
      · rw [hra, ← g2.len]; simp [up2, upd]
      · rw [ho, ← g1.sz]; simp [up2, upd, r_sSize]
    · unfold thM tF
      rw [hr J, if_neg (by decide)]
      generalize tI x (fun _ => 16) J = Y at *
      exact ⟨fun c c1 c2 c3 c4 c5 c6 c7 => by
        show up2 (up2 (up2 Y.2.1 36 3 (r_sSize Y.2.1)) 36 2 ((up2 Y.2.1 36 3 (r_sSize Y.2.1)) 36 10)) 36 1 1 c = x.2.1 c
        rw [u2n c1, u2n c1, u2n c1]; exact g3.iv c c1 c2 c3 c4 c5 c6 c7, ⟨g3.e, g3.l39, g3.o⟩, g3.le, g3.lo, g3.ln⟩
  · -- there were too many
    have hJ : ∃ j, J = j + 1 := by
      cases J with
      | zero => exact absurd (show (1 : Nat) ≤ 3000 by decide) hov
      | succ j => exact ⟨j, rfl⟩
    obtain ⟨j0, hJ⟩ := hJ
    subst hJ
    have hall : ∀ i, i ≤ j0 → (eA P i).N ≤ 3000 := fun i hi => (h1 i (by omega)).2
    have sim := fun j (hj : j ≤ j0) => tI_sim hP hC hx hc j (fun i hi => (h1 i (by omega)).1) (fun i hi => hall i (by omega))
    have szj : ∀ j, j ≤ j0 → szK (tI x (fun _ => 16) j).2.1 = (eA P j).N := fun j hj => hsz (sim j hj).1.sz (hall j hj)
    obtain ⟨g1, g2, g3⟩ := sim j0 (Nat.le_refl _)
    obtain ⟨K, k1, k2, k3, k4⟩ := vM_full g1 g2 hP (hC.tf g3) (h1 j0 (by omega)).1 hov
    have cg : ∀ j, j ≤ j0 → tI x (fun i => if i = j0 then K else 16) j = tI x (fun _ => 16) j := fun j hj => tI_congr j (fun i hi => by rw [if_neg (by omega)])
    have eJ : tI x (fun i => if i = j0 then K else 16) (j0 + 1) = vM j0 (tI x (fun _ => 16) j0) K := by rw [tI, cg j0 (Nat.le_refl _), if_pos rfl]
    have hr : ∀ j, j ≤ j0 → rmv (t0R x) (fun i => if i = j0 then K else 16) j = 1 := fun j hj => by
      cases j with
      | zero => exact v2
      | succ j => show (if (if j = j0 then K else 16) = 16 then (1 : Int32) else 0) = 1; rw [if_neg (show ¬ j = j0 by omega), if_pos rfl]
    have hrJ : rmv (t0R x) (fun i => if i = j0 then K else 16) (j0 + 1) = 0 := by
      show (if (if j0 = j0 then K else 16) = 16 then (1 : Int32) else 0) = 0
      rw [if_pos rfl, if_neg (by omega)]
    refine ⟨fun i => if i = j0 then K else 16, ⟨h40, v1, fun j hj => ?_, fun j hj => ?_, Or.inl hrJ, h3⟩, ?_, ?_⟩
    · by_cases e : j = j0 + 1
      · rw [e, eJ, hsz k4 (Nat.le_refl _)]; exact ⟨k4, Nat.le_refl _⟩
      · rw [cg j (by omega), szj j (by omega)]; exact ⟨(sim j (by omega)).1.sz, hall j (by omega)⟩
    · rw [hr j (by omega), cg j (by omega), szj j (by omega)]
      refine ⟨by decide, (h1 j hj).1, ?_⟩
      show okVis j (tI x (fun _ => 16) j) (if j = j0 then K else 16)
      by_cases e : j = j0
      · rw [e, if_pos rfl]; exact k2
      · rw [if_neg e]
        obtain ⟨q1, q2, q3⟩ := sim j (by omega)
        exact (vM_sim q1 q2 hP (hC.tf q3) (eA_gs hP j (fun i hi => (h1 i (by omega)).1)) (h1 j hj).1 (hall (j + 1) (by omega))).1
    · unfold thM tF
      rw [hrJ, if_pos rfl, eJ]
      have g5 := g3.trans k3
      generalize vM j0 (tI x (fun _ => 16) j0) K = Y at *
      obtain ⟨f1, f2, f3, f4⟩ := forget_sp Y.2.1
      have ho : oA (eA P (j0 + 1)) = ⟨0, (eA P (j0 + 1)).σ, (eA P (j0 + 1)).f, 0, 0, 0, 0, fun _ => 0⟩ := by unfold oA; rw [if_pos (by omega)]
      have hra : rA (eA P (j0 + 1)) = -2 := by unfold rA; rw [if_pos (by omega)]
      have K' : ∀ k, ¬ k = 1 → ¬ k = 2 → up2 (up2 (m_hForget Y.2.1) 36 2 (-2)) 36 1 1 36 k = m_hForget Y.2.1 36 k := fun k k1 k2 => by
        rw [u2s]; simp only [upd, if_neg k1]; rw [u2s]; simp only [upd, if_neg k2]
      refine ⟨?_, ?_, ?_, ?_⟩
      · rw [ho]
        refine ⟨?_, ?_, ?_, fun t ht => ?_, ?_, fun j hj => absurd hj (Nat.not_lt_zero _), g5.o, Nat.zero_le _⟩
        · show up2 (up2 (m_hForget Y.2.1) 36 2 (-2)) 36 1 1 36 4 = 0
          rw [K' 4 (by decide) (by decide)]; exact f2 4 (by decide)
        · show up2 (up2 (m_hForget Y.2.1) 36 2 (-2)) 36 1 1 36 5 = 0
          rw [K' 5 (by decide) (by decide)]; exact f2 5 (by decide)
        · show up2 (up2 (m_hForget Y.2.1) 36 2 (-2)) 36 1 1 36 6 = 0
          rw [K' 6 (by decide) (by decide)]; exact f2 6 (by decide)
        · show up2 (up2 (m_hForget Y.2.1) 36 2 (-2)) 36 1 1 37 t = 0
          rw [u2n (by decide), u2n (by decide)]; exact f3 t ht
        · show up2 (up2 (m_hForget Y.2.1) 36 2 (-2)) 36 1 1 36 10 = 0
          rw [K' 10 (by decide) (by decide)]; exact f2 10 (by decide)
      · show up2 (up2 (m_hForget Y.2.1) 36 2 (-2)) 36 1 1 36 1 = 1
        rw [u2s]; simp [upd]
      · rw [hra]
        show up2 (up2 (m_hForget Y.2.1) 36 2 (-2)) 36 1 1 36 2 = -2
        rw [u2s]; simp only [upd, if_neg (show ¬ (2 : Nat) = 1 by decide)]; rw [u2s]; simp [upd]
      · rw [ho]
        show up2 (up2 (m_hForget Y.2.1) 36 2 (-2)) 36 1 1 36 3 = 0
        rw [K' 3 (by decide) (by decide)]; exact f2 3 (by decide)
    · unfold thM tF
      rw [hrJ, if_pos rfl, eJ]
      have g5 := g3.trans k3
      generalize vM j0 (tI x (fun _ => 16) j0) K = Y at *
      obtain ⟨f1, f2, f3, f4⟩ := forget_sp Y.2.1
      exact ⟨fun c c1 c2 c3 c4 c5 c6 c7 => by
        show up2 (up2 (m_hForget Y.2.1) 36 2 (-2)) 36 1 1 c = x.2.1 c
        rw [u2n c1, u2n c1, f1 c c1 c2]; exact g5.iv c c1 c2 c3 c4 c5 c6 c7, ⟨g5.e, g5.l39, g5.o⟩, g5.le, g5.lo, g5.ln⟩
