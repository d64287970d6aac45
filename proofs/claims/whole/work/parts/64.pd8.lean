theorem fill_sp {iv : Nat → Nat → Int32} {c : Nat} {v : Int32} : ∀ n, (∀ b, ¬ b = c → fillI iv c v n b = iv b) ∧ ∀ j, j < n → fillI iv c v n c j = v
  | 0 => ⟨fun _ _ => rfl, fun j h => absurd h (Nat.not_lt_zero _)⟩
  | n + 1 => by
    obtain ⟨h1, h2⟩ := fill_sp (iv := iv) (c := c) (v := v) n
    refine ⟨fun b hb => by rw [fillI, u2n hb, h1 b hb], fun j hj => ?_⟩
    rw [fillI, u2s]
    unfold upd
    by_cases q : j = n
    · rw [if_pos q]
    · rw [if_neg q]; exact h2 j (by omega)
theorem wBegin_eq {iv : Nat → Nat → Int32} {mi t : Nat} {P : PR} (hP : okPR P) (hC : CP iv P) (hmi : mi < 2) (ht : t < 4) : CT (m_wBegin iv mi t (20 + 4 * mi + t)) ((aBeg P).th t) ∧ ∀ c, ¬ c = 20 + 4 * mi + t → m_wBegin iv mi t c = iv c := by
  have hl := hP.len t ht
  have e : (if (up2 iv (20 + 4 * mi + t) 1 0) (2 + t) 2 ≤ 0 then (4 : Int32) else 0) = nI (if P.len t = 0 then 4 else 0) := by
    rw [u2n (by omega), hC.len t ht]
    have : (nI (P.len t) ≤ 0) = (P.len t = 0) := propext (by rw [q0, qLe (by omega) (by decide)]; omega)
    simp only [this]
    split <;> rfl
  unfold m_wBegin
  rw [e]
  constructor
  · refine ⟨?_, ?_, ?_, ?_, ?_, ?_, ?_⟩ <;> (simp [up2, upd] <;> rfl)
  · intro c hc
    rw [u2n hc, u2n hc, u2n hc, u2n hc, u2n hc, u2n hc, u2n hc]
theorem mBegin_eq {iv : Nat → Nat → Int32} {mi m : Nat} {P : PR} {s : Nat → Int32} : CM (m_mBegin iv mi m (28 + 2 * mi + m)) s ((aBeg P).mo m) ∧ ∀ c, ¬ c = 28 + 2 * mi + m → m_mBegin iv mi m c = iv c := by
  unfold m_mBegin m_mSetFree
  constructor
  · refine ⟨?_, ?_, ?_, fun j hj => absurd hj (Nat.not_lt_zero _)⟩ <;> (simp [up2, upd] <;> rfl)
  · intro c hc
    rw [u2n hc, u2n hc, u2n hc]
theorem aBegin_eq {iv : Nat → Nat → Int32} {mi : Nat} {P : PR} (hP : okPR P) (hC : CP iv P) (hmi : mi < 2) : CR iv (m_aBegin iv mi) mi (aBeg P) := by
  unfold m_aBegin
  have F : ∀ {iv' : Nat → Nat → Int32} {t : Nat}, CP iv' P → t < 4 → CP (m_wBegin iv' mi t) P := fun {iv' t} h ht => h.of hmi (fun c h1 h2 h3 => (wBegin_eq hP h hmi ht).2 c (by omega))
  obtain ⟨a0, b0⟩ := wBegin_eq hP hC hmi (t := 0) (by decide)
  have C0 := F hC (t := 0) (by decide)
  generalize m_wBegin iv mi 0 = i0 at *
  obtain ⟨a1, b1⟩ := wBegin_eq hP C0 hmi (t := 1) (by decide)
  have C1 := F C0 (t := 1) (by decide)
  generalize m_wBegin i0 mi 1 = i1 at *
  obtain ⟨a2, b2⟩ := wBegin_eq hP C1 hmi (t := 2) (by decide)
  have C2 := F C1 (t := 2) (by decide)
  generalize m_wBegin i1 mi 2 = i2 at *
  obtain ⟨a3, b3⟩ := wBegin_eq hP C2 hmi (t := 3) (by decide)
  generalize m_wBegin i2 mi 3 = i3 at *
  obtain ⟨a4, b4⟩ := mBegin_eq (iv := i3) (mi := mi) (m := 0) (P := P) (s := m_mBegin (m_mBegin i3 mi 0) mi 1 (32 + 2 * mi + 0))
  generalize m_mBegin i3 mi 0 = i4 at *
  obtain ⟨a5, b5⟩ := mBegin_eq (iv := i4) (mi := mi) (m := 1) (P := P) (s := m_mBegin i4 mi 1 (32 + 2 * mi + 1))
  generalize m_mBegin i4 mi 1 = i5 at *
  refine ⟨fun t ht => ?_, fun m hm => ?_, fun c h1 h2 h3 => ?_⟩
  · have : t = 0 ∨ t = 1 ∨ t = 2 ∨ t = 3 := by omega
    rcases this with q | q | q | q <;> subst q
    · rw [b5 _ (by omega), b4 _ (by omega), b3 _ (by omega), b2 _ (by omega), b1 _ (by omega)]; exact a0
    · rw [b5 _ (by omega), b4 _ (by omega), b3 _ (by omega), b2 _ (by omega)]; exact a1
    · rw [b5 _ (by omega), b4 _ (by omega), b3 _ (by omega)]; exact a2
    · rw [b5 _ (by omega), b4 _ (by omega)]; exact a3
  · have : m = 0 ∨ m = 1 := by omega
    rcases this with q | q <;> subst q
    · rw [b5 (28 + 2 * mi + 0) (by omega)]; exact a4
    · exact a5
  · rw [b5 c (by omega), b4 c (by omega), b3 c (by omega), b2 c (by omega), b1 c (by omega), b0 c (by omega)]
noncomputable def s0A (P : PR) : SS := ⟨1, fun _ => aBeg P, fun _ => 0, 0, 0, 0, 0, fun _ => 0⟩
noncomputable def eA (P : PR) : Nat → SS
  | 0 => s0A P
  | j + 1 => goA P j (eA P j)
theorem eA_gs {P : PR} (hP : okPR P) : ∀ j, (∀ i, i < j → i < (eA P i).N) → GS P (eA P j) j
  | 0, _ => ⟨fun i j _ h => absurd h (Nat.not_lt_zero _), Nat.le_refl _, Nat.le_refl _, Nat.le_refl _, Nat.zero_le _, by show 1 ≤ 3001; decide, fun _ _ => okAS.beg, fun i k h1 h2 => by have : k < 1 := h2; omega⟩
  | j + 1, h => (eA_gs hP j (fun i hi => h i (by omega))).go hP (h j (by omega))
theorem eA_end (P : PR) : ∃ J, (∀ j, j < J → j < (eA P j).N ∧ (eA P j).N ≤ 3000) ∧ ¬ (J < (eA P J).N ∧ (eA P J).N ≤ 3000) ∧ J ≤ 3000 := by
  have key : ∀ n, (∃ J, (∀ j, j < J → j < (eA P j).N ∧ (eA P j).N ≤ 3000) ∧ ¬ (J < (eA P J).N ∧ (eA P J).N ≤ 3000) ∧ J < n) ∨ ∀ j, j < n → j < (eA P j).N ∧ (eA P j).N ≤ 3000 := by
    intro n
    induction n with
    | zero => exact Or.inr (fun j h => absurd h (Nat.not_lt_zero _))
    | succ n ih =>
      rcases ih with ⟨J, h1, h2, h3⟩ | h
      · exact Or.inl ⟨J, h1, h2, by omega⟩
      · by_cases q : n < (eA P n).N ∧ (eA P n).N ≤ 3000
        · refine Or.inr (fun j hj => ?_)
          by_cases e : j = n
          · rw [e]; exact q
          · exact h j (by omega)
        · exact Or.inl ⟨n, h, q, by omega⟩
  rcases key 3001 with ⟨J, h1, h2, h3⟩ | h
  · exact ⟨J, h1, h2, by omega⟩
  · have := h 3000 (by decide); omega
def capX (x : KM2) : Prop := (capE (x.1 40)) ∧ (x.1 39 = x.1 40 * 3) ∧ (capO (x.1 41))
theorem capX.e {x : KM2} (h9 : capX x) : capE (x.1 40) := h9.1
theorem capX.l39 {x : KM2} (h9 : capX x) : x.1 39 = x.1 40 * 3 := h9.2.1
theorem capX.o {x : KM2} (h9 : capX x) : capO (x.1 41) := h9.2.2
theorem t0_sim {x : KM2} {P : PR} (hP : okPR P) (hC : CP x.2.1 P) (hx : capX x) (hc : CC x (s0A P)) : okV x.1 (iB x.1 x.2.1) ∧ t0R x = 1 ∧ SC (t0M x) P (s0A P).σ (s0A P).N ∧ CC (t0M x) (s0A P) ∧ TF x (t0M x) := by
  have F1 : (∀ c, ¬ c = 38 → ¬ c = 40 → m_sClear x.2.1 x.1 c = x.2.1 c) ∧ m_sClear x.2.1 x.1 38 0 = 0 ∧ ∀ j, j < x.1 40 → m_sClear x.2.1 x.1 40 j = 0 := by
    unfold m_sClear
    obtain ⟨g1, g2⟩ := fill_sp (iv := up2 x.2.1 38 0 0) (c := 40) (v := 0) (x.1 40)
    exact ⟨fun c h1 h2 => by rw [g1 c h2, u2n h1], by rw [g1 38 (by decide), u2s]; simp [upd], g2⟩
  obtain ⟨f1, f2, f3⟩ := F1
  have hC1 : CP (m_sClear x.2.1 x.1) P := ⟨fun t ht => by rw [f1 _ (by omega) (by omega)]; exact hC.len t ht, fun t p ht hp => by rw [f1 _ (by omega) (by omega)]; exact hC.act t p ht hp, fun t p ht hp hh => by rw [f1 _ (by omega) (by omega)]; exact hC.opd t p ht hp hh, fun m hm => by rw [f1 _ (by omega) (by omega)]; exact hC.loose m hm⟩
  have hR : CR (m_sClear x.2.1 x.1) (iB x.1 x.2.1) 1 (aBeg P) := aBegin_eq hP hC1 (by decide)
  have he := hx.e
  have hS : SC (x.1, iB x.1 x.2.1, x.2.2) P (fun _ => aBeg P) 0 := by
    refine ⟨?_, Nat.zero_le _, hx.e, hx.l39, Nat.zero_le _, fun i t hi _ => absurd hi (Nat.not_lt_zero _), ?_, fun i hi => absurd hi (Nat.not_lt_zero _), fun i j _ hj => absurd hj (Nat.not_lt_zero _)⟩
    · show iB x.1 x.2.1 38 0 = nI 0
      rw [hR.fr 38 (by decide) (by decide) (by decide), f2]; rfl
    · show HT (iB x.1 x.2.1 40) (x.1 40) 0 _
      refine (HT.empty (h := fun _ => 0) (by unfold capE at he; omega) (by unfold capE at he; omega)).of (fun s hs => ?_) (fun i hi => absurd hi (Nat.not_lt_zero _))
      rw [hR.fr 40 (by decide) (by decide) (by decide), f3 s hs]
  have hok : okAS P (aBeg P) := okAS.beg
  obtain ⟨v1, v2⟩ := hS.okVv hR hok
  have v2 : szK (iB x.1 x.2.1) = 0 := v2
  obtain ⟨k1, _, k3⟩ := hS.keepX hP hR hok
  have k3 := (k3 (fun e => by obtain ⟨i, hi, _⟩ := e; exact absurd hi (Nat.not_lt_zero _))).1 (by decide)
  have e1 : t0M x = kpX x.1 (iB x.1 x.2.1) x.2.2 0 (kqK x.1) := by unfold t0M; rw [v2]
  have e2 : t0R x = kpR x.1 (iB x.1 x.2.1) x.2.2 0 (kqK x.1) := by unfold t0R; rw [v2]
  rw [← e1] at k1
  have k3 : t0R x = 1 ∧ SC (t0M x) P (fun i => if i = 0 then aBeg P else aBeg P) 1 := by rw [e1, e2]; exact k3
  simp only [ifsame] at k3
  have hT : TF x (t0M x) := by
    have a1 : ∀ c, ¬ c = 38 → ¬ c = 40 → ¬ (24 ≤ c ∧ c < 28) → ¬ (30 ≤ c ∧ c < 32) → ¬ (34 ≤ c ∧ c < 36) → (t0M x).2.1 c = x.2.1 c := fun c c1 c2 c3 c4 c5 => by
      rw [k1.iv c c1 c2]
      show iB x.1 x.2.1 c = _
      rw [hR.fr c c3 c4 c5, f1 c c1 c2]
    exact (show VF x (t0M x) from ⟨a1, k1.lv, k1.ln, k1.e, k1.l39, k1.le⟩).tf hx.o
  refine ⟨v1, k3.1, k3.2, ?_, hT⟩
  have a36 : (t0M x).2.1 36 = x.2.1 36 := by
    rw [k1.iv 36 (by decide) (by decide)]; show iB x.1 x.2.1 36 = _; rw [hR.fr 36 (by decide) (by decide) (by decide), f1 36 (by decide) (by decide)]
  have a37 : (t0M x).2.1 37 = x.2.1 37 := by
    rw [k1.iv 37 (by decide) (by decide)]; show iB x.1 x.2.1 37 = _; rw [hR.fr 37 (by decide) (by decide) (by decide), f1 37 (by decide) (by decide)]
  exact hc.of a36 a37 (k1.lv 41 (by decide)) (k1.ln 41 (by decide) (by decide)) ⟨rfl, rfl, rfl, rfl, rfl, rfl⟩
theorem tI_congr {x : KM2} {Kf Kg : Nat → Nat} : ∀ j, (∀ i, i < j → Kf i = Kg i) → tI x Kf j = tI x Kg j
  | 0, _ => rfl
  | j + 1, h => by rw [tI, tI, tI_congr j (fun i hi => h i (by omega)), h j (by omega)]
theorem tI_sim {x : KM2} {P : PR} (hP : okPR P) (hC : CP x.2.1 P) (hx : capX x) (hc : CC x (s0A P)) : ∀ j, (∀ i, i < j → i < (eA P i).N) → (∀ i, i ≤ j → (eA P i).N ≤ 3000) → SC (tI x (fun _ => 16) j) P (eA P j).σ (eA P j).N ∧ CC (tI x (fun _ => 16) j) (eA P j) ∧ TF x (tI x (fun _ => 16) j)
  | 0, _, _ => by
    obtain ⟨_, _, h3, h4, h5⟩ := t0_sim hP hC hx hc
    exact ⟨h3, h4, h5⟩
  | j + 1, h1, h2 => by
    obtain ⟨g1, g2, g3⟩ := tI_sim hP hC hx hc j (fun i hi => h1 i (by omega)) (fun i hi => h2 i (by omega))
    obtain ⟨_, v2, v3, v4⟩ := vM_sim g1 g2 hP (hC.tf g3) (eA_gs hP j (fun i hi => h1 i (by omega))) (h1 j (by omega)) (h2 (j + 1) (Nat.le_refl _))
    exact ⟨v2, v3, g3.trans v4⟩
