theorem L_tr {a b c : Int64} (h : a < b) (h' : b < c) : a < c := by rw [Int64.lt_iff_toInt_lt] at *; omega
theorem L_ir {a : Int64} (h : a < a) : False := by rw [Int64.lt_iff_toInt_lt] at h; omega
theorem L_to {a b : Int64} (h : ¬ a < b) (h' : ¬ a = b) : b < a := by
  rw [Int64.lt_iff_toInt_lt] at *
  have : ¬ a.toInt = b.toInt := fun e => h' (Int64.toInt_inj.1 e)
  omega
def srt (f : Nat → Int64) (L : Nat) : Prop := ∀ i j, i < j → j < L → f i < f j
def LB (f : Nat → Int64) (L : Nat) (v : Int64) (p : Nat) : Prop := (p ≤ L) ∧ (∀ j, j < p → f j < v) ∧ (∀ j, p ≤ j → j < L → ¬ f j < v)
theorem LB.le {f : Nat → Int64} {L : Nat} {v : Int64} {p : Nat} (h9 : LB f L v p) : p ≤ L := h9.1
theorem LB.lo {f : Nat → Int64} {L : Nat} {v : Int64} {p : Nat} (h9 : LB f L v p) : ∀ j, j < p → f j < v := h9.2.1
theorem LB.hi {f : Nat → Int64} {L : Nat} {v : Int64} {p : Nat} (h9 : LB f L v p) : ∀ j, p ≤ j → j < L → ¬ f j < v := h9.2.2
theorem LB.uniq {f : Nat → Int64} {L : Nat} {v : Int64} {p q : Nat} (h : LB f L v p) (h' : LB f L v q) : p = q := by
  rcases Nat.lt_trichotomy p q with e | e | e
  · exact absurd (h'.lo p e) (h.hi p (Nat.le_refl _) (Nat.lt_of_lt_of_le e h'.le))
  · exact e
  · exact absurd (h.lo q e) (h'.hi q (Nat.le_refl _) (Nat.lt_of_lt_of_le e h.le))
theorem LB.of {f g : Nat → Int64} {L : Nat} {v : Int64} {p : Nat} (h : LB f L v p) (e : ∀ j, j < L → g j = f j) : LB g L v p :=
  ⟨h.le,
   fun j hj => by rw [e j (Nat.lt_of_lt_of_le hj h.le)]; exact h.lo j hj,
   fun j h1 h2 => by rw [e j h2]; exact h.hi j h1 h2⟩
theorem bsr_LB {lv : Nat → Nat → Int64} {v : Int64} {L : Nat} (hs : srt (lv 41) L) : ∀ (k lo hi : Nat), hi ≤ lo + k → lo ≤ hi → hi ≤ L → (∀ j, j < lo → lv 41 j < v) → (∀ j, hi ≤ j → j < L → ¬ lv 41 j < v) → LB (lv 41) L v (bsr lv v k lo hi)
  | 0, lo, hi, h1, h2, h3, h4, h5 => by
    rw [bsr]
    exact ⟨by omega, h4, fun j a b => h5 j (by omega) b⟩
  | k + 1, lo, hi, h1, h2, h3, h4, h5 => by
    rw [bsr]
    by_cases q : lo < hi
    · rw [if_pos q]
      have hm1 : lo ≤ (lo + hi) / 2 := by omega
      have hm2 : (lo + hi) / 2 < hi := by omega
      by_cases q2 : lv 41 ((lo + hi) / 2) < v
      · rw [if_pos q2]
        refine bsr_LB hs k _ _ (by omega) (by omega) h3 (fun j hj => ?_) h5
        by_cases e : j = (lo + hi) / 2
        · rw [e]; exact q2
        · exact L_tr (hs j _ (by omega) (by omega)) q2
      · rw [if_neg q2]
        refine bsr_LB hs k _ _ (by omega) hm1 (by omega) h4 (fun j h6 h7 h8 => ?_)
        by_cases e : j = (lo + hi) / 2
        · rw [e] at h8; exact q2 h8
        · exact q2 (L_tr (hs _ j (by omega) h7) h8)
    · rw [if_neg q]
      exact ⟨by omega, h4, fun j a b => h5 j (by omega) b⟩
theorem posL_LB {lv : Nat → Nat → Int64} {v : Int64} {L : Nat} (hs : srt (lv 18) L) : ∀ (k j : Nat), j + k = L → (∀ i, i < j → lv 18 i < v) → LB (lv 18) L v (posL lv v k j)
  | 0, j, h1, h2 => by rw [posL]; exact ⟨by omega, h2, fun i a b => by omega⟩
  | k + 1, j, h1, h2 => by
    rw [posL]
    by_cases q : lv 18 j < v
    · rw [if_pos q]
      refine posL_LB hs k (j + 1) (by omega) (fun i hi => ?_)
      by_cases e : i = j
      · rw [e]; exact q
      · exact h2 i (by omega)
    · rw [if_neg q]
      refine ⟨by omega, h2, fun i a b h3 => ?_⟩
      by_cases e : i = j
      · rw [e] at h3; exact q h3
      · exact q (L_tr (hs j i (by omega) b) h3)
def insA (f : Nat → Int64) (p : Nat) (v : Int64) : Nat → Int64 := fun j => if j < p then f j else if j = p then v else f (j - 1)
def noteA (f : Nat → Int64) (L : Nat) (v : Int64) (f' : Nat → Int64) (L' : Nat) : Prop := ∃ p, LB f L v p ∧ ((p < L ∧ f p = v ∧ f' = f ∧ L' = L) ∨ (¬ (p < L ∧ f p = v) ∧ f' = insA f p v ∧ L' = L + 1))
theorem noteA.uniq {f : Nat → Int64} {L : Nat} {v : Int64} {f1 f2 : Nat → Int64} {L1 L2 : Nat} (h1 : noteA f L v f1 L1) (h2 : noteA f L v f2 L2) : f1 = f2 ∧ L1 = L2 := by
  obtain ⟨p, a1, b1⟩ := h1
  obtain ⟨q, a2, b2⟩ := h2
  have e := a1.uniq a2
  subst e
  rcases b1 with ⟨c1, c2, c3, c4⟩ | ⟨c1, c3, c4⟩ <;> rcases b2 with ⟨d1, d2, d3, d4⟩ | ⟨d1, d3, d4⟩
  · exact ⟨by rw [c3, d3], by rw [c4, d4]⟩
  · exact absurd ⟨c1, c2⟩ d1
  · exact absurd ⟨d1, d2⟩ c1
  · exact ⟨by rw [c3, d3], by rw [c4, d4]⟩
theorem noteA.le {f : Nat → Int64} {L : Nat} {v : Int64} {f' : Nat → Int64} {L' : Nat} (h : noteA f L v f' L') : L ≤ L' ∧ L' ≤ L + 1 := by
  obtain ⟨p, a1, b1⟩ := h
  rcases b1 with ⟨c1, c2, c3, c4⟩ | ⟨c1, c3, c4⟩ <;> omega
theorem noteA.srt {f : Nat → Int64} {L : Nat} {v : Int64} {f' : Nat → Int64} {L' : Nat} (h : noteA f L v f' L') (hs : srt f L) : srt f' L' := by
  obtain ⟨p, a1, b1⟩ := h
  have hp := a1.le
  rcases b1 with ⟨c1, c2, c3, c4⟩ | ⟨c1, c3, c4⟩
  · subst c3 c4; exact hs
  · subst c3 c4
    have hv : p < L → v < f p := fun q => L_to (a1.hi p (Nat.le_refl _) q) (fun e => c1 ⟨q, e⟩)
    have hv2 : ∀ j, p ≤ j → j < L → v < f j := fun j h1 h2 => by
      by_cases e : j = p
      · rw [e]; exact hv (by omega)
      · exact L_tr (hv (by omega)) (hs p j (by omega) h2)
    intro i j hij hj
    unfold insA
    by_cases i1 : i < p
    · rw [if_pos i1]
      by_cases j1 : j < p
      · rw [if_pos j1]; exact hs i j hij (by omega)
      · rw [if_neg j1]
        by_cases j2 : j = p
        · rw [if_pos j2]; exact a1.lo i i1
        · rw [if_neg j2]; exact L_tr (a1.lo i i1) (hv2 (j - 1) (by omega) (by omega))
    · rw [if_neg i1, if_neg (show ¬ j < p by omega), if_neg (show ¬ j = p by omega)]
      by_cases i2 : i = p
      · rw [if_pos i2]; exact hv2 (j - 1) (by omega) (by omega)
      · rw [if_neg i2]; exact hs (i - 1) (j - 1) (by omega) (by omega)
def capO (n : Nat) : Prop := n = 16 ∨ n = 32 ∨ n = 64 ∨ n = 128 ∨ n = 256 ∨ n = 512 ∨ n = 1024 ∨ n = 2048 ∨ n = 4096
theorem ins_row {lv : Nat → Nat → Int64} {f : Nat → Int64} {p L : Nat} {v : Int64} (hp : p ≤ L) (hf : ∀ j, j < L → lv 41 j = f j) : ∀ j, j < L + 1 → insL lv p L v 41 j = insA f p v j := by
  intro j hj
  unfold insL insA
  by_cases e : j = p
  · rw [e, u2Ls, if_neg (by omega), if_pos rfl]
  · rw [u2Lk e]
    show va_cpy (lv 41) (lv 41) p (p + 1) (L - p) j = _
    unfold va_cpy
    by_cases q : j < p
    · rw [if_neg (by omega), if_pos q]; exact hf j (by omega)
    · rw [if_pos (by omega), if_neg q, if_neg e, ← hf (j - 1) (by omega)]
      congr 1
      omega
theorem ins_c {lv : Nat → Nat → Int64} {p L c : Nat} {v : Int64} (hc : ¬ c = 41) : insL lv p L v c = lv c := by
  unfold insL
  rw [u2Ln hc]
  unfold upR
  rw [if_neg hc]
theorem noM_eq {ln : Nat → Nat} {iv : Nat → Nat → Int32} {lv : Nat → Nat → Int64} {v : Int64} {L : Nat} {f : Nat → Int64} (hs : srt f L) (hf : ∀ j, j < L → lv 41 j = f j) (hL : L ≤ 3000) (hl : L ≤ ln 41) (hc : capO (ln 41)) (hiv : iv 36 10 = nI L) :
    ∃ f' L', noteA f L v f' L' ∧ (∀ j, j < L' → (noM ln iv lv v L).2.2 41 j = f' j) ∧ (noM ln iv lv v L).2.1 36 10 = nI L' ∧ (∀ k, ¬ k = 10 → (noM ln iv lv v L).2.1 36 k = iv 36 k) ∧ (∀ c, ¬ c = 36 → (noM ln iv lv v L).2.1 c = iv c) ∧ (∀ c, ¬ c = 41 → (noM ln iv lv v L).2.2 c = lv c) ∧ (∀ c, ¬ c = 41 → (noM ln iv lv v L).1 c = ln c) ∧ L' ≤ (noM ln iv lv v L).1 41 ∧ capO ((noM ln iv lv v L).1 41) ∧ ln 41 ≤ (noM ln iv lv v L).1 41 := by
  have hs' : srt (lv 41) L := fun i j h1 h2 => by rw [hf i (by omega), hf j h2]; exact hs i j h1 h2
  have hb := bsr_LB (v := v) hs' 3000 0 L (by omega) (by omega) (Nat.le_refl _) (fun j h => absurd h (Nat.not_lt_zero _)) (fun j h1 h2 => by omega)
  have hb2 : LB f L v (bsr lv v 3000 0 L) := hb.of (fun j hj => (hf j hj).symm)
  have hp := hb.le
  unfold noM
  by_cases q : fnd lv v L
  · have q' : fnd lv v L := q
    obtain ⟨q1, q2⟩ := q
    refine ⟨f, L, ⟨_, hb2, Or.inl ⟨q1, by rw [← hf _ q1]; exact q2, rfl, rfl⟩⟩, ?_⟩
    rw [if_pos (Or.inl q')]
    have e1 : m_hNote iv lv v L = iv := by unfold m_hNote; rw [if_pos q']
    have e2 : n_hNote lv v L = lv := by unfold n_hNote; rw [if_pos q']
    rw [e1, e2]
    exact ⟨hf, hiv, fun _ _ => rfl, fun _ _ => rfl, fun _ _ => rfl, fun _ _ => rfl, hl, hc, Nat.le_refl _⟩
  · have hn : ¬ (bsr lv v 3000 0 L < L ∧ f (bsr lv v 3000 0 L) = v) := fun e => q ⟨e.1, by rw [hf _ e.1]; exact e.2⟩
    refine ⟨insA f (bsr lv v 3000 0 L) v, L + 1, ⟨_, hb2, Or.inr ⟨hn, rfl, rfl⟩⟩, ?_⟩
    by_cases q2 : L < ln 41
    · rw [if_pos (Or.inr q2)]
      have e1 : m_hNote iv lv v L = up2 iv 36 10 (nI (L + 1)) := by unfold m_hNote; rw [if_neg q]
      have e2 : n_hNote lv v L = insL lv (bsr lv v 3000 0 L) L v := by unfold n_hNote; rw [if_neg q]
      rw [e1, e2]
      exact ⟨ins_row hp hf, by simp [up2, upd], fun k hk => by simp [up2, upd, hk], fun c hc => u2n hc, fun c hc => ins_c hc, fun _ _ => rfl, q2, hc, Nat.le_refl _⟩
    · rw [if_neg (fun e => by rcases e with e | e; exact q e; exact q2 e)]
      have hLe : L = ln 41 := by omega
      refine ⟨?_, by simp [up2, upd], fun k hk => by simp [up2, upd, hk], fun c hc => u2n hc, fun c hc => ?_, fun c hc => ?_, ?_, ?_, ?_⟩
      · exact ins_row hp (fun j hj => by
          show va_cpy (lv 41) (fun _ => 0) 0 0 L j = f j
          unfold va_cpy
          rw [if_pos (by omega), Nat.zero_add, Nat.sub_zero]; exact hf j hj)
      · show insL (lvO lv L) (bsr lv v 3000 0 L) L v c = lv c
        rw [ins_c hc]; unfold lvO; rw [if_neg hc]
      · show lnO ln L c = ln c; unfold lnO; rw [if_neg hc]
      · show L + 1 ≤ L * 2; unfold capO at hc; omega
      · show capO (L * 2); unfold capO at *; omega
      · show ln 41 ≤ L * 2; omega
theorem shR_sp : ∀ (n k : Nat) (lv : Nat → Nat → Int64), n ≤ k → (∀ c, ¬ c = 18 → shR n k lv c = lv c) ∧ ∀ y, shR n k lv 18 y = if k - n < y ∧ y ≤ k then lv 18 (y - 1) else lv 18 y
  | 0, k, lv, _ => ⟨fun _ _ => rfl, fun y => by rw [if_neg (by omega)]; rfl⟩
  | n + 1, k, lv, h => by
    obtain ⟨h1, h2⟩ := shR_sp n (k - 1) (up2L lv 18 k (lv 18 (k - 1))) (by omega)
    refine ⟨fun c hc => by rw [shR, h1 c hc, u2Ln hc], fun y => ?_⟩
    rw [shR, h2 y]
    by_cases e : y = k
    · rw [if_neg (by omega), if_pos (by omega), e, u2Ls]
    · by_cases q : k - 1 - n < y ∧ y ≤ k - 1
      · rw [if_pos q, if_pos (by omega), u2Lk (by omega)]
      · rw [if_neg q, if_neg (by omega), u2Lk e]
theorem ntR_eq {lv : Nat → Nat → Int64} {v : Int64} {L : Nat} {f : Nat → Int64} (hs : srt f L) (hf : ∀ j, j < L → lv 18 j = f j) :
    ∃ f' L', noteA f L v f' L' ∧ ((posL lv v L 0 < L ∧ lv 18 (posL lv v L 0) = v ∧ f' = f ∧ L' = L) ∨ (¬ (posL lv v L 0 < L ∧ lv 18 (posL lv v L 0) = v) ∧ L' = L + 1 ∧ (∀ j, j < L' → up2L (shR (L - posL lv v L 0) L lv) 18 (posL lv v L 0) v 18 j = f' j) ∧ ∀ c, ¬ c = 18 → up2L (shR (L - posL lv v L 0) L lv) 18 (posL lv v L 0) v c = lv c)) := by
  have hs' : srt (lv 18) L := fun i j h1 h2 => by rw [hf i (by omega), hf j h2]; exact hs i j h1 h2
  have hb := posL_LB (v := v) hs' L 0 (by omega) (fun j h => absurd h (Nat.not_lt_zero _))
  have hb2 : LB f L v (posL lv v L 0) := hb.of (fun j hj => (hf j hj).symm)
  have hp := hb.le
  generalize posL lv v L 0 = p at *
  by_cases q : p < L ∧ lv 18 p = v
  · exact ⟨f, L, ⟨_, hb2, Or.inl ⟨q.1, by rw [← hf _ q.1]; exact q.2, rfl, rfl⟩⟩, Or.inl ⟨q.1, q.2, rfl, rfl⟩⟩
  · have hn : ¬ (p < L ∧ f p = v) := fun e => q ⟨e.1, by rw [hf _ e.1]; exact e.2⟩
    obtain ⟨g1, g2⟩ := shR_sp (L - p) L lv (by omega)
    refine ⟨insA f p v, L + 1, ⟨_, hb2, Or.inr ⟨hn, rfl, rfl⟩⟩, Or.inr ⟨q, rfl, fun j hj => ?_, fun c hc => by rw [u2Ln hc, g1 c hc]⟩⟩
    unfold insA
    by_cases e : j = p
    · rw [e, u2Ls, if_neg (by omega), if_pos rfl]
    · rw [u2Lk e, g2]
      by_cases q3 : j < p
      · rw [if_neg (by omega), if_pos q3]; exact hf j (by omega)
      · rw [if_pos (by omega), if_neg q3, if_neg e]; exact hf (j - 1) (by omega)
