def HT (g : Nat → Int32) (n N : Nat) (h : Nat → Nat) : Prop := (∀ s, s < n → ¬ g s = 0 → ∃ i, i < N ∧ g s = nI (i + 1)) ∧ (∀ s s', s < n → s' < n → ¬ g s = 0 → g s = g s' → s = s') ∧ (∀ i, i < N → ∃ d, g ((h i + d) % n) = nI (i + 1) ∧ ∀ d', d' < d → ¬ g ((h i + d') % n) = 0) ∧ (N < n) ∧ (n ≤ 4096)
theorem HT.b {g : Nat → Int32} {n N : Nat} {h : Nat → Nat} (h9 : HT g n N h) : ∀ s, s < n → ¬ g s = 0 → ∃ i, i < N ∧ g s = nI (i + 1) := h9.1
theorem HT.d {g : Nat → Int32} {n N : Nat} {h : Nat → Nat} (h9 : HT g n N h) : ∀ s s', s < n → s' < n → ¬ g s = 0 → g s = g s' → s = s' := h9.2.1
theorem HT.c {g : Nat → Int32} {n N : Nat} {h : Nat → Nat} (h9 : HT g n N h) : ∀ i, i < N → ∃ d, g ((h i + d) % n) = nI (i + 1) ∧ ∀ d', d' < d → ¬ g ((h i + d') % n) = 0 := h9.2.2.1
theorem HT.lt {g : Nat → Int32} {n N : Nat} {h : Nat → Nat} (h9 : HT g n N h) : N < n := h9.2.2.2.1
theorem HT.n {g : Nat → Int32} {n N : Nat} {h : Nat → Nat} (h9 : HT g n N h) : n ≤ 4096 := h9.2.2.2.2
theorem HT.zero {g : Nat → Int32} {n N : Nat} {h : Nat → Nat} (H : HT g n N h) : ∃ s, s < n ∧ g s = 0 := by
  refine Classical.byContradiction fun hno => ?_
  have hall : ∀ s, s < n → ¬ g s = 0 := fun s hs q => hno ⟨s, hs, q⟩
  have hlt := H.lt
  have hn := H.n
  have key : ∀ s, s < n → (g s).toNatClampNeg - 1 < N ∧ g s = nI ((g s).toNatClampNeg - 1 + 1) := fun s hs => by
    obtain ⟨i, hi, he⟩ := H.b s hs (hall s hs)
    rw [he, qC (by omega), Nat.add_sub_cancel]
    exact ⟨hi, rfl⟩
  have h1 : ((List.range n).map fun s => (g s).toNatClampNeg - 1).Nodup := by
    rw [List.Nodup, List.pairwise_map]
    refine List.Pairwise.imp_of_mem ?_ (List.nodup_range (n := n))
    intro a b ha hb hab he
    have ha' := List.mem_range.1 ha
    have hb' := List.mem_range.1 hb
    exact hab (H.d a b ha' hb' (hall a ha') (by rw [(key a ha').2, (key b hb').2, he]))
  have h2 := nodup_len N _ h1 (fun v hv => by
    obtain ⟨s, hs, rfl⟩ := List.mem_map.1 hv
    exact (key s (List.mem_range.1 hs)).1)
  rw [List.length_map, List.length_range] at h2
  omega
theorem mod_reach {n h s : Nat} (hs : s < n) : ∃ d, d < n ∧ (h + d) % n = s := by
  have hh := Nat.mod_lt h (show 0 < n by omega)
  by_cases q : h % n ≤ s
  · refine ⟨s - h % n, by omega, ?_⟩
    rw [Nat.add_mod, Nat.mod_eq_of_lt (show s - h % n < n by omega), show h % n + (s - h % n) = s by omega, Nat.mod_eq_of_lt hs]
  · refine ⟨n + s - h % n, by omega, ?_⟩
    rw [Nat.add_mod, Nat.mod_eq_of_lt (show n + s - h % n < n by omega), show h % n + (n + s - h % n) = s + n by omega, Nat.add_mod_right, Nat.mod_eq_of_lt hs]
def stp (iv : Nat → Nat → Int32) (lv : Nat → Nat → Int64) (a s : Nat) : Prop := iv 40 s = 0 ∨ ¬ r_sSame iv lv (bS iv s) a = 0
theorem prb_find {iv : Nat → Nat → Int32} {lv : Nat → Nat → Int64} {n a h : Nat} : ∀ (k j : Nat), (∃ d, j ≤ d ∧ d < j + k ∧ stp iv lv a ((h + d) % n)) → ∃ d, j ≤ d ∧ d < j + k ∧ stp iv lv a ((h + d) % n) ∧ (∀ d', j ≤ d' → d' < d → ¬ stp iv lv a ((h + d') % n)) ∧ prb iv lv n a k ((h + j) % n) = (h + d) % n
  | 0, j, h => by obtain ⟨d, h1, h2, _⟩ := h; omega
  | k + 1, j, hex => by
    by_cases q : stp iv lv a ((h + j) % n)
    · refine ⟨j, Nat.le_refl _, by omega, q, fun d' h1 h2 => by omega, ?_⟩
      rw [prb]
      rcases q with q | q
      · rw [if_pos q]
      · by_cases q0 : iv 40 ((h + j) % n) = 0
        · rw [if_pos q0]
        · rw [if_neg q0, if_neg q]
    · obtain ⟨d0, h1, h2, h3⟩ := hex
      have hne : ¬ d0 = j := fun e => q (e ▸ h3)
      obtain ⟨d, g1, g2, g3, g4, g5⟩ := prb_find (iv := iv) (lv := lv) (n := n) (a := a) (h := h) k (j + 1) ⟨d0, by omega, by omega, h3⟩
      refine ⟨d, by omega, by omega, g3, fun d' k1 k2 => ?_, ?_⟩
      · by_cases e : d' = j
        · rw [e]; exact q
        · exact g4 d' (by omega) k2
      · have q1 : ¬ iv 40 ((h + j) % n) = 0 := fun e => q (Or.inl e)
        have q2 : r_sSame iv lv (bS iv ((h + j) % n)) a = 0 := Classical.byContradiction fun e => q (Or.inr e)
        rw [prb, if_neg q1, if_pos q2, ← g5]
        congr 1
        rw [Nat.mod_add_mod, Nat.add_assoc]
theorem sSame_iff {iv : Nat → Nat → Int32} {lv : Nat → Nat → Int64} {i a : Nat} : ¬ r_sSame iv lv i a = 0 ↔ ∀ t, t < 4 → lv 39 (i * 4 + t) = lv 39 (a * 4 + t) := by
  unfold r_sSame
  constructor
  · intro h t ht
    by_cases q0 : lv 39 (i * 4 + 0) = lv 39 (a * 4 + 0)
    · by_cases q1 : lv 39 (i * 4 + 1) = lv 39 (a * 4 + 1)
      · by_cases q2 : lv 39 (i * 4 + 2) = lv 39 (a * 4 + 2)
        · by_cases q3 : lv 39 (i * 4 + 3) = lv 39 (a * 4 + 3)
          · have : t = 0 ∨ t = 1 ∨ t = 2 ∨ t = 3 := by omega
            rcases this with q | q | q | q <;> subst q <;> assumption
          · rw [if_pos q0, if_pos q1, if_pos q2, if_neg q3] at h; exact absurd rfl h
        · rw [if_pos q0, if_pos q1, if_neg q2] at h; exact absurd rfl h
      · rw [if_pos q0, if_neg q1] at h; exact absurd rfl h
    · rw [if_neg q0] at h; exact absurd rfl h
  · intro h
    rw [if_pos (h 0 (by decide)), if_pos (h 1 (by decide)), if_pos (h 2 (by decide)), if_pos (h 3 (by decide))]
    decide
theorem bS_eq {iv : Nat → Nat → Int32} {s i : Nat} (h : iv 40 s = nI (i + 1)) (hi : i + 1 < 2 ^ 31) : bS iv s = i := by unfold bS; rw [h, qC hi]; omega
theorem nz {i : Nat} (hi : i + 1 < 2 ^ 31) : ¬ nI (i + 1) = 0 := fun e => by have := (qE hi (show 0 < 2 ^ 31 by decide)).1 e; omega
theorem HT.hit {iv : Nat → Nat → Int32} {lv : Nat → Nat → Int64} {n N a i : Nat} {h : Nat → Nat} (H : HT (iv 40) n N h) (hi : i < N) (hs : ∀ t, t < 4 → lv 39 (i * 4 + t) = lv 39 (a * 4 + t)) (hh : h i = hN iv lv a) : ¬ iv 40 (slN iv lv n a) = 0 := by
  have hlt := H.lt
  have hn := H.n
  obtain ⟨d, h1, h2⟩ := H.c i hi
  rw [hh] at h1 h2
  have hb := bS_eq h1 (by omega)
  have hst : stp iv lv a ((hN iv lv a + d) % n) := Or.inr (by rw [hb]; exact sSame_iff.2 hs)
  have hdn : ∃ d0, d0 < n ∧ stp iv lv a ((hN iv lv a + d0) % n) := by
    obtain ⟨d0, k1, k2⟩ := mod_reach (n := n) (h := hN iv lv a) (s := (hN iv lv a + d) % n) (Nat.mod_lt _ (by omega))
    exact ⟨d0, k1, by rw [k2]; exact hst⟩
  obtain ⟨d0, k1, k2⟩ := hdn
  obtain ⟨d1, g1, g2, g3, g4, g5⟩ := prb_find (iv := iv) (lv := lv) (n := n) (a := a) (h := hN iv lv a) n 0 ⟨d0, Nat.zero_le _, by omega, k2⟩
  unfold slN
  rw [show hN iv lv a % n = (hN iv lv a + 0) % n by rw [Nat.add_zero], g5]
  rcases Nat.lt_trichotomy d1 d with q | q | q
  · exact h2 d1 q
  · rw [q, h1]; exact nz (by omega)
  · exact absurd hst (g4 d (Nat.zero_le _) q)
theorem HT.miss {iv : Nat → Nat → Int32} {lv : Nat → Nat → Int64} {n N a : Nat} {h : Nat → Nat} (H : HT (iv 40) n N h) (hs : ∀ i, i < N → ¬ ∀ t, t < 4 → lv 39 (i * 4 + t) = lv 39 (a * 4 + t)) : iv 40 (slN iv lv n a) = 0 ∧ slN iv lv n a < n ∧ ∃ d, slN iv lv n a = (hN iv lv a + d) % n ∧ ∀ d', d' < d → ¬ iv 40 ((hN iv lv a + d') % n) = 0 := by
  have hlt := H.lt
  have hn := H.n
  obtain ⟨s, h1, h2⟩ := H.zero
  obtain ⟨d0, k1, k2⟩ := mod_reach (n := n) (h := hN iv lv a) h1
  have key : ∀ s, s < n → stp iv lv a s → iv 40 s = 0 := fun s hsn q => by
    rcases q with q | q
    · exact q
    · refine Classical.byContradiction fun hz => ?_
      obtain ⟨i, hi, he⟩ := H.b s hsn hz
      rw [bS_eq he (by omega)] at q
      exact hs i hi (sSame_iff.1 q)
  obtain ⟨d1, g1, g2, g3, g4, g5⟩ := prb_find (iv := iv) (lv := lv) (n := n) (a := a) (h := hN iv lv a) n 0 ⟨d0, Nat.zero_le _, by omega, Or.inl (by rw [k2]; exact h2)⟩
  have hsl : slN iv lv n a = (hN iv lv a + d1) % n := by
    unfold slN
    rw [show hN iv lv a % n = (hN iv lv a + 0) % n by rw [Nat.add_zero], g5]
  have hm : (hN iv lv a + d1) % n < n := Nat.mod_lt _ (by omega)
  rw [hsl]
  exact ⟨key _ hm g3, hm, d1, rfl, fun d' hd q => g4 d' (Nat.zero_le _) hd (Or.inl q)⟩
theorem HT.ins {g : Nat → Int32} {n N s : Nat} {h : Nat → Nat} (H : HT g n N h) (hz : g s = 0) (hs : s < n) (hd : ∃ d, s = (h N + d) % n ∧ ∀ d', d' < d → ¬ g ((h N + d') % n) = 0) (hN : N + 1 < n) : HT (upd g s (nI (N + 1))) n (N + 1) h :=
  ⟨fun s' hs' q => by
    unfold upd at *
    by_cases e : s' = s
    · rw [if_pos e]; exact ⟨N, by omega, rfl⟩
    · rw [if_neg e] at *
      obtain ⟨i, h1, h2⟩ := H.b s' hs' q
      exact ⟨i, by omega, h2⟩,
   fun s1 s2 h1 h2 q e => by
    have hn := H.n
    unfold upd at *
    by_cases e1 : s1 = s
    · by_cases e2 : s2 = s
      · rw [e1, e2]
      · rw [if_pos e1, if_neg e2] at e
        by_cases hz2 : g s2 = 0
        · rw [hz2] at e; exact absurd e (nz (by omega))
        · obtain ⟨i, k1, k2⟩ := H.b s2 h2 hz2
          rw [k2] at e
          have := (qE (by omega) (by omega)).1 e
          omega
    · rw [if_neg e1] at e q
      by_cases e2 : s2 = s
      · rw [if_pos e2] at e
        obtain ⟨i, k1, k2⟩ := H.b s1 h1 q
        rw [k2] at e
        have := (qE (by omega) (by omega)).1 e
        omega
      · rw [if_neg e2] at e
        exact H.d s1 s2 h1 h2 q e,
   fun i hi => by
    have hn := H.n
    by_cases e : i = N
    · obtain ⟨d, h1, h2⟩ := hd
      refine ⟨d, ?_, fun d' hd' => ?_⟩
      · rw [e, ← h1]; simp [upd]
      · rw [e]; unfold upd
        by_cases q : (h N + d') % n = s
        · rw [if_pos q]; exact nz (by omega)
        · rw [if_neg q]; exact h2 d' hd'
    · obtain ⟨d, h1, h2⟩ := H.c i (by omega)
      have hz' : ∀ s', ¬ g s' = 0 → upd g s (nI (N + 1)) s' = g s' := fun s' q => by
        unfold upd; rw [if_neg (fun e2 => q (by rw [e2]; exact hz))]
      refine ⟨d, ?_, fun d' hd' => ?_⟩
      · rw [hz' _ (by rw [h1]; exact nz (by omega)), h1]
      · rw [hz' _ (h2 d' hd')]; exact h2 d' hd',
   hN,
   H.n⟩
theorem HT.empty {n : Nat} {h : Nat → Nat} (h0 : 0 < n) (hn : n ≤ 4096) : HT (fun _ => 0) n 0 h :=
  ⟨fun s _ q => absurd rfl q,
   fun s _ _ _ q _ => absurd rfl q,
   fun i hi => absurd hi (Nat.not_lt_zero _),
   h0,
   hn⟩
theorem HT.of {g g' : Nat → Int32} {n N : Nat} {h h' : Nat → Nat} (H : HT g n N h) (hg : ∀ s, s < n → g' s = g s) (hh : ∀ i, i < N → h' i = h i) : HT g' n N h' :=
  ⟨fun s hs q => by rw [hg s hs] at *; exact H.b s hs q,
   fun s s' h1 h2 q e => by rw [hg s h1] at *; rw [hg s' h2] at e; exact H.d s s' h1 h2 q e,
   fun i hi => by
    have hlt := H.lt
    obtain ⟨d, h1, h2⟩ := H.c i hi
    refine ⟨d, ?_, fun d' hd' => ?_⟩
    · rw [hh i hi, hg _ (Nat.mod_lt _ (by omega))]; exact h1
    · rw [hh i hi, hg _ (Nat.mod_lt _ (by omega))]; exact h2 d' hd',
   H.lt,
   H.n⟩
theorem hN_eq {iv iv' : Nat → Nat → Int32} {lv lv' : Nat → Nat → Int64} {i j : Nat} (h : ∀ t, t < 4 → lv 39 (i * 4 + t) = lv' 39 (j * 4 + t)) : hN iv lv i = hN iv' lv' j := by
  unfold hN r_sHash
  rw [h 0 (by decide), h 1 (by decide), h 2 (by decide), h 3 (by decide)]
