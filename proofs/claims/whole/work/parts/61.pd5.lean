section
variable {x : KM2} {P : PR} {σ : Nat → AS} {N a : Nat}
theorem CR.self {iv0 iv : Nat → Nat → Int32} {mi : Nat} {b : AS} (h : CR iv0 iv mi b) : CR iv iv mi b := ⟨h.th, h.mo, fun _ _ _ _ => rfl⟩
theorem mayC_eq (hC : CP x.2.1 P) (hP : okPR P) {b : AS} (hR : CR x.2.1 x.2.1 1 b) (hok : okAS P b) {t w : Nat} (ht : t < 4) (hw : w < 4) : mayC x.2.1 t (nI w) = nI (aMay P b t w) := hR.may (by decide) hC hP hok ht hw (opC hR hC hP hok ht)
theorem aMay_lt {b : AS} (hok : okAS P b) {t w : Nat} (ht : t < 4) : aMay P b t w < 2 := by
  have h1 := (hok.th t ht).fi
  unfold aMay
  repeat' split
  all_goals omega
theorem nz1 {n : Nat} (h : n < 2) : nI n = 0 ↔ n = 0 := qE (b := 0) (by omega) (by decide)
theorem takC_eq (hC : CP x.2.1 P) (hP : okPR P) {b : AS} (hR : CR x.2.1 x.2.1 1 b) (hok : okAS P b) {t w : Nat} (ht : t < 4) (hw : w < 4) (hm : ¬ aMay P b t w = 0) : CR x.2.1 (takC x.2.1 t (nI w)) 1 (aTak P b t w) := by
  have hmm : mmC x.2.1 t < 2 := Nat.mod_lt _ (by decide)
  exact hR.tak (by decide) hC hP hok ht hw (opC hR hC hP hok ht) (okS4_of hR hok hmm).1 hm
theorem SC.step (h : SC x P σ N) (hP : okPR P) (hC : CP x.2.1 P) (ha : a < N) {b : AS} (hb : b = σ a) (hR : CR x.2.1 x.2.1 1 b) {t w : Nat} (ht : t < 4) (hw : w < 4) :
    okA a t w x ∧ (¬ aMay P b t w = 0 → ((addA (N, σ) (aTak P b t w)).1 ≤ 3000 → ¬ vR x t w = 0 ∧ SC (reS a (vK x t w)) P (addA (N, σ) (aTak P b t w)).2 (addA (N, σ) (aTak P b t w)).1 ∧ CR (reS a (vK x t w)).2.1 (reS a (vK x t w)).2.1 1 b ∧ VF x (reS a (vK x t w))) ∧ (¬ (addA (N, σ) (aTak P b t w)).1 ≤ 3000 → vR x t w = 0 ∧ VF x (vK x t w) ∧ (vK x t w).2.1 38 0 = nI 3000)) := by
  have hok : okAS P b := by rw [hb]; exact h.ok a ha
  have hcap := h.cap
  have hl39 := h.l39
  have he := h.e
  have hN3 := h.n3
  have key : ¬ aMay P b t w = 0 → SC (x.1, takC x.2.1 t (nI w), x.2.2) P σ N ∧ CR x.2.1 (takC x.2.1 t (nI w)) 1 (aTak P b t w) ∧ okAS P (aTak P b t w) := fun hm => by
    have h1 := takC_eq hC hP hR hok ht hw hm
    exact ⟨SC.fr (ln := x.1) (iv := x.2.1) (lv := x.2.2) h h1.fr, h1, hok.tak hP ht hm⟩
  have vKe : ¬ aMay P b t w = 0 → vK x t w = kpX x.1 (takC x.2.1 t (nI w)) x.2.2 N (kqK x.1) ∧ vR x t w = kpR x.1 (takC x.2.1 t (nI w)) x.2.2 N (kqK x.1) ∧ okV x.1 (takC x.2.1 t (nI w)) := fun hm => by
    obtain ⟨h1, h2, h3⟩ := key hm
    obtain ⟨g1, g2⟩ := h1.okVv h2 h3
    unfold vK vR
    have g2 : szK (takC x.2.1 t (nI w)) = N := g2
    rw [g2]
    exact ⟨rfl, rfl, g1⟩
  refine ⟨⟨okT_of hR (by decide) hC hP hok ht (opC hR hC hP hok ht), fun hm => ?_⟩, fun hm => ?_⟩
  · rw [mayC_eq hC hP hR hok ht hw, nz1 (aMay_lt hok ht)] at hm
    obtain ⟨h1, h2, h3⟩ := key hm
    obtain ⟨e1, e2, e3⟩ := vKe hm
    obtain ⟨k1, _, _⟩ := h1.keepX hP h2 h3
    have k1 : KF (x.1, takC x.2.1 t (nI w), x.2.2) (vK x t w) := by rw [e1]; exact k1
    have q1 := k1.e
    have q2 := k1.l39
    have q3 : x.1 40 ≤ (vK x t w).1 40 := k1.le
    refine ⟨okD_of hR hok, e3, ?_, ?_⟩
    · rw [q2]; unfold capE at q1; omega
    · rw [q2]; omega
  · obtain ⟨h1, h2, h3⟩ := key hm
    obtain ⟨e1, e2, e3⟩ := vKe hm
    obtain ⟨k1, k2, k3⟩ := h1.keepX hP h2 h3
    rw [← e1] at k1
    have k2 : (∃ i, i < N ∧ eqv (σ i) (aTak P b t w)) → vR x t w = 1 ∧ SC (vK x t w) P σ N := by rw [e1, e2]; exact k2
    have k3 : (¬ ∃ i, i < N ∧ eqv (σ i) (aTak P b t w)) → (N < 3000 → vR x t w = 1 ∧ SC (vK x t w) P (fun i => if i = N then aTak P b t w else σ i) (N + 1)) ∧ (¬ N < 3000 → vR x t w = 0 ∧ (vK x t w).2.1 38 0 = nI N) := by rw [e1, e2]; exact k3
    have kv : VF x (vK x t w) := (FR.vf (ln := x.1) (lv := x.2.2) h2.fr he hl39).trans k1.vf
    have main : (addA (N, σ) (aTak P b t w)).1 ≤ 3000 → vR x t w = 1 ∧ SC (vK x t w) P (addA (N, σ) (aTak P b t w)).2 (addA (N, σ) (aTak P b t w)).1 := fun hle => by
      by_cases q : ∃ i, i < N ∧ eqv (σ i) (aTak P b t w)
      · have e : addA (N, σ) (aTak P b t w) = (N, σ) := by unfold addA; rw [if_pos (Or.inr q)]
        rw [e]; exact k2 q
      · have e : addA (N, σ) (aTak P b t w) = (N + 1, fun i => if i = N then aTak P b t w else σ i) := by unfold addA; rw [if_neg (fun e => by rcases e with e | e; exact absurd e (by show ¬ 3000 < N; omega); exact q e)]
        rw [e] at hle ⊢
        exact (k3 q).1 hle
    refine ⟨fun hle => ?_, fun hle => ?_⟩
    · obtain ⟨m1, m2⟩ := main hle
      have haN := addA_le (N, σ) (aTak P b t w)
      have haN : N ≤ (addA (N, σ) (aTak P b t w)).1 := haN.1
      have hrow : ∀ t', t' < 4 → (vK x t w).2.2 39 (a * 4 + t') = lI (cC b t') := fun t' ht' => by
        rw [m2.row a t' (by omega) ht', addA_lo (N, σ) _ ha, hb]
      have hr := rest_eq (iv := (vK x t w).2.1) (lv := (vK x t w).2.2) (k := a) (hok.b hP) hrow
      refine ⟨by rw [m1]; decide, SC.fr (ln := (vK x t w).1) (iv := (vK x t w).2.1) (lv := (vK x t w).2.2) m2 hr.fr, hr.self, kv.trans (FR.vf (ln := (vK x t w).1) (lv := (vK x t w).2.2) hr.fr kv.e kv.l39)⟩
    · have q : ¬ ∃ i, i < N ∧ eqv (σ i) (aTak P b t w) := fun q => hle (by unfold addA; rw [if_pos (Or.inr q)]; exact hN3)
      have q2 : ¬ N < 3000 := fun q2 => hle (by
        unfold addA; rw [if_neg (fun e => by rcases e with e | e; exact absurd e (by show ¬ 3000 < N; omega); exact q e)]; exact q2)
      have k4 := (k3 q).2 q2
      rw [show N = 3000 by omega] at k4
      exact ⟨k4.1, kv, k4.2⟩
theorem vI_sim (h : SC x P σ N) (hP : okPR P) (hC : CP x.2.1 P) (ha : a < N) : ∀ c, c ≤ 16 → (vA P (σ a) (N, σ) c).1.1 ≤ 3000 → SC (vI a x c).1 P (vA P (σ a) (N, σ) c).1.2 (vA P (σ a) (N, σ) c).1.1 ∧ (vI a x c).2 = (vA P (σ a) (N, σ) c).2 ∧ CR (vI a x c).1.2.1 (vI a x c).1.2.1 1 (σ a) ∧ VF x (vI a x c).1
  | 0, _, _ => by
    have hr := rest_eq (iv := x.2.1) (lv := x.2.2) (k := a) ((h.ok a ha).b hP) (fun t ht => h.row a t ha ht)
    exact ⟨SC.fr (ln := x.1) (iv := x.2.1) (lv := x.2.2) h hr.fr, rfl, hr.self, FR.vf (ln := x.1) (lv := x.2.2) hr.fr h.e h.l39⟩
  | c + 1, hc, hle => by
    have hle' := Nat.le_trans (vA_mono c) hle
    obtain ⟨h1, h2, h3, h4⟩ := vI_sim h hP hC ha c (by omega) hle'
    have hok := h.ok a ha
    have hlow := (vA_le (P := P) (b := σ a) (y := (N, σ)) c)
    have hN' : N ≤ (vA P (σ a) (N, σ) c).1.1 := hlow.1
    have hC' := hC.vf h4
    have ht : c / 4 < 4 := by omega
    have hw : c % 4 < 4 := by omega
    obtain ⟨s1, s2⟩ := SC.step (a := a) h1 hP hC' (by omega) (hlow.2.1 a ha).symm h3 ht hw
    have hmay := mayC_eq hC' hP h3 hok ht hw
    rw [vI]
    unfold vS
    rw [vA] at hle ⊢
    by_cases q : aMay P (σ a) (c / 4) (c % 4) = 0
    · rw [if_pos q, if_pos (by rw [hmay, q]; rfl)]
      exact ⟨h1, h2, h3, h4⟩
    · rw [if_neg q] at hle ⊢
      rw [if_neg (by rw [hmay, nz1 (aMay_lt hok ht)]; exact q)]
      obtain ⟨u1, u2, u3, u4⟩ := (s2 q).1 hle
      exact ⟨u2, by show _ + 1 = _ + 1; rw [h2], u3, h4.trans u4⟩
theorem vI_ok (h : SC x P σ N) (hP : okPR P) (hC : CP x.2.1 P) (ha : a < N) {c : Nat} (hc : c < 16) (hle : (vA P (σ a) (N, σ) c).1.1 ≤ 3000) : okA a (c / 4) (c % 4) (vI a x c).1 ∧ ((vA P (σ a) (N, σ) (c + 1)).1.1 ≤ 3000 → ¬ mayC (vI a x c).1.2.1 (c / 4) (nI (c % 4)) = 0 → ¬ vR (vI a x c).1 (c / 4) (c % 4) = 0) ∧ (¬ (vA P (σ a) (N, σ) (c + 1)).1.1 ≤ 3000 → ¬ mayC (vI a x c).1.2.1 (c / 4) (nI (c % 4)) = 0 ∧ vR (vI a x c).1 (c / 4) (c % 4) = 0 ∧ VF x (vK (vI a x c).1 (c / 4) (c % 4)) ∧ (vK (vI a x c).1 (c / 4) (c % 4)).2.1 38 0 = nI 3000) := by
  obtain ⟨h1, h2, h3, h4⟩ := vI_sim h hP hC ha c (by omega) hle
  have hok := h.ok a ha
  have hlow := (vA_le (P := P) (b := σ a) (y := (N, σ)) c)
  have hN' : N ≤ (vA P (σ a) (N, σ) c).1.1 := hlow.1
  have hC' := hC.vf h4
  have ht : c / 4 < 4 := by omega
  have hw : c % 4 < 4 := by omega
  obtain ⟨s1, s2⟩ := SC.step (a := a) h1 hP hC' (by omega) (hlow.2.1 a ha).symm h3 ht hw
  have hmay := mayC_eq hC' hP h3 hok ht hw
  refine ⟨s1, fun hle2 hm => ?_, fun hle2 => ?_⟩
  · have q : ¬ aMay P (σ a) (c / 4) (c % 4) = 0 := fun q => hm (by rw [hmay, q]; rfl)
    rw [vA, if_neg q] at hle2
    exact ((s2 q).1 hle2).1
  · have q : ¬ aMay P (σ a) (c / 4) (c % 4) = 0 := fun q => hle2 (by rw [vA, if_pos q]; exact hle)
    rw [vA, if_neg q] at hle2
    obtain ⟨u1, u2, u3⟩ := (s2 q).2 hle2
    exact ⟨by rw [hmay, nz1 (aMay_lt hok ht)]; exact q, u1, h4.trans u2, u3⟩
end
