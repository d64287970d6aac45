/-- what the rows that grow have cost so far -/
def cA (ln : Nat → Nat) : Nat := Nat.log2 (ln 40) + Nat.log2 (ln 41)
def sA (ln : Nat → Nat) : Nat := 16 * ln 40 / 3 + 2 * ln 41
abbrev rX (fr lo : Nat) (ln ln' : Nat → Nat) : Room := { frames := fr, cells := cA ln' - cA ln, slots := sA ln' - sA ln, locals := lo }
def kpX (ln : Nat → Nat) (iv : Nat → Nat → Int32) (lv : Nat → Nat → Int64) (sz kq : Nat) : KM2 := if sz < kq * 3 then (ln, m_sKeep iv lv ln sz, n_sKeep iv lv ln sz) else kpM (gwM ln iv lv (kq * 4) sz) sz
def kpR (ln : Nat → Nat) (iv : Nat → Nat → Int32) (lv : Nat → Nat → Int64) (sz kq : Nat) : Int32 := if sz < kq * 3 then r_sKeep iv lv ln sz else r_sKeep (gwM ln iv lv (kq * 4) sz).2.1 (gwM ln iv lv (kq * 4) sz).2.2 (gwM ln iv lv (kq * 4) sz).1 sz
theorem cA_G {ln : Nat → Nat} {n0 e : Nat} (hn : ln 40 = n0) (he : n0 = 2 ^ e) : cA (lnG ln n0) = cA ln + 2 ∧ sA (lnG ln n0) = sA ln + n0 * 16 := by
  constructor
  · show Nat.log2 (n0 * 4) + Nat.log2 (ln 41) = Nat.log2 (ln 40) + Nat.log2 (ln 41) + 2
    rw [hn, he, show 2 ^ e * 4 = 2 ^ (e + 2) by rw [Nat.pow_add], Nat.log2_two_pow, Nat.log2_two_pow]
    omega
  · show 16 * (n0 * 4) / 3 + 2 * ln 41 = 16 * ln 40 / 3 + 2 * ln 41 + n0 * 16
    rw [hn]
    omega
theorem kpX_c {ln : Nat → Nat} {iv : Nat → Nat → Int32} {lv : Nat → Nat → Int64} {sz kq e : Nat} (h : okK ln iv sz kq e) : cA ln ≤ cA (kpX ln iv lv sz kq).1 ∧ sA ln ≤ sA (kpX ln iv lv sz kq).1 := by
  unfold kpX
  split
  · exact ⟨Nat.le_refl _, Nat.le_refl _⟩
  · obtain ⟨a, b⟩ := cA_G h.2.2.1 h.2.2.2.1
    show cA ln ≤ cA (lnG ln (kq * 4)) ∧ sA ln ≤ sA (lnG ln (kq * 4))
    omega
/-- keep, whether its rows grow or not -/
theorem c_keepX (l : Launch) (D : va_G) (gc : Nat → ClassId) (ad ln : Nat → Nat) (iv : Nat → Nat → Int32) (lv : Nat → Nat → Int64) (sz kq e : Nat) (hok : okK ln iv sz kq e) (hle : sz ≤ kq * 3) (he : ¬ sz < kq * 3 → e ≤ 10) : kMiX l yX4_keep wX4_keep (rX 4 200 ln (kpX ln iv lv sz kq).1) D vwCl (kT gc) 42 (kE gc) [.ref (ad 38), .ref (ad (14 + 1))] (ad, ln, iv, lv) (kpX ln iv lv sz kq) (kpR ln iv lv sz kq) := by
  by_cases h : sz < kq * 3
  · rw [show kpX ln iv lv sz kq = (ln, m_sKeep iv lv ln sz, n_sKeep iv lv ln sz) from if_pos h, show kpR ln iv lv sz kq = r_sKeep iv lv ln sz from if_pos h]
    unfold rX
    simp only [Nat.sub_self]
    exact c_sKeep l D gc ad ln iv lv sz kq e hok h
  · rw [show kpX ln iv lv sz kq = kpM (gwM ln iv lv (kq * 4) sz) sz from if_neg h, show kpR ln iv lv sz kq = r_sKeep (gwM ln iv lv (kq * 4) sz).2.1 (gwM ln iv lv (kq * 4) sz).2.2 (gwM ln iv lv (kq * 4) sz).1 sz from if_neg h]
    obtain ⟨a, b⟩ := cA_G hok.2.2.1 hok.2.2.2.1
    have h1 : rX 4 200 ln (kpM (gwM ln iv lv (kq * 4) sz) sz).1 = { frames := 4, cells := 2, slots := kq * 4 * 16, locals := 200 } := by
      show ({ frames := 4, cells := cA (lnG ln (kq * 4)) - cA ln, slots := sA (lnG ln (kq * 4)) - sA ln, locals := 200 } : Room) = _
      rw [a, b, Nat.add_sub_cancel_left, Nat.add_sub_cancel_left]
    rw [h1]
    exact c_sKeepG l D gc ad ln iv lv sz kq e hok (he h) (by omega)
/-- noteOutcome, whether its row grows or not -/
noncomputable def noM (ln : Nat → Nat) (iv : Nat → Nat → Int32) (lv : Nat → Nat → Int64) (N : Int64) (f : Nat) : KM2 := @ite _ (fnd lv N f ∨ f < ln 41) (Classical.propDecidable _) (ln, m_hNote iv lv N f, n_hNote lv N f) (lnO ln f, up2 iv 36 10 (nI (f + 1)), insL (lvO lv f) (bsr lv N 3000 0 f) f N)
def okO2 (ln : Nat → Nat) (iv : Nat → Nat → Int32) (f g : Nat) : Prop := iv 36 10 = nI f ∧ f ≤ ln 41 ∧ f ≤ 3000 ∧ ln 41 = 2 ^ g ∧ g ≤ 12
theorem cA_O {ln : Nat → Nat} {f g : Nat} (hn : ln 41 = f) (he : f = 2 ^ g) : cA (lnO ln f) = cA ln + 1 ∧ sA (lnO ln f) = sA ln + f * 2 := by
  constructor
  · show Nat.log2 (ln 40) + Nat.log2 (f * 2) = Nat.log2 (ln 40) + Nat.log2 (ln 41) + 1
    rw [hn, he, show 2 ^ g * 2 = 2 ^ (g + 1) by rw [Nat.pow_succ], Nat.log2_two_pow, Nat.log2_two_pow]
    omega
  · show 16 * ln 40 / 3 + 2 * (f * 2) = 16 * ln 40 / 3 + 2 * ln 41 + f * 2
    rw [hn]
    omega
theorem noM_c {ln : Nat → Nat} {iv : Nat → Nat → Int32} {lv : Nat → Nat → Int64} {N : Int64} {f g : Nat} (h : okO2 ln iv f g) : cA ln ≤ cA (noM ln iv lv N f).1 ∧ sA ln ≤ sA (noM ln iv lv N f).1 := by
  unfold noM
  split
  · exact ⟨Nat.le_refl _, Nat.le_refl _⟩
  · rename_i h2
    have hfe : ln 41 = f := by
      have := h.2.1
      rcases Nat.lt_or_ge f (ln 41) with q | q
      · exact absurd (Or.inr q) h2
      · omega
    obtain ⟨a, b⟩ := cA_O hfe (hfe.symm.trans h.2.2.2.1)
    show cA ln ≤ cA (lnO ln f) ∧ sA ln ≤ sA (lnO ln f)
    omega
theorem c_noteX (l : Launch) (D : va_G) (gc : Nat → ClassId) (ad ln : Nat → Nat) (iv : Nat → Nat → Int32) (lv : Nat → Nat → Int64) (N : Int64) (f g : Nat) (hok : okO2 ln iv f g) : kMvX l yX3_noteOutcome wX3_noteOutcome (rX 2 120 ln (noM ln iv lv N f).1) D vwCl (kT gc) 42 (kE gc) [.ref (ad 36), .long N] (ad, ln, iv, lv) (noM ln iv lv N f) := by
  obtain ⟨hf, hf1, hf3, hg, hg12⟩ := hok
  have h12 : ln 41 ≤ 4096 := by rw [hg]; exact Nat.pow_le_pow_right (n := 2) (by decide) hg12
  have hg0 : 0 < ln 41 := by rw [hg]; exact Nat.two_pow_pos g
  by_cases h : fnd lv N f ∨ f < ln 41
  · rw [show noM ln iv lv N f = (ln, m_hNote iv lv N f, n_hNote lv N f) from if_pos h]
    unfold rX
    simp only [Nat.sub_self]
    exact c_hNote l D gc ad ln iv lv N f hf (by omega) hf1 hf3 (fun hn => h.elim (fun q => absurd q hn) id)
  · rw [show noM ln iv lv N f = (lnO ln f, up2 iv 36 10 (nI (f + 1)), insL (lvO lv f) (bsr lv N 3000 0 f) f N) from if_neg h]
    have hfe : ln 41 = f := by
      rcases Nat.lt_or_ge f (ln 41) with q | q
      · exact absurd (Or.inr q) h
      · omega
    obtain ⟨a, b⟩ := cA_O hfe (hfe.symm.trans hg)
    have h1 : rX 2 120 ln (lnO ln f) = { frames := 2, cells := 1, slots := f * 2, locals := 120 } := by
      show ({ frames := 2, cells := cA (lnO ln f) - cA ln, slots := sA (lnO ln f) - sA ln, locals := 120 } : Room) = _
      rw [a, b, Nat.add_sub_cancel_left, Nat.add_sub_cancel_left]
    show kMvX l yX3_noteOutcome wX3_noteOutcome (rX 2 120 ln (lnO ln f)) D vwCl (kT gc) 42 (kE gc) [.ref (ad 36), .long N] (ad, ln, iv, lv) _
    rw [h1]
    exact c_hNoteG l D gc ad ln iv lv N f hf (by omega) hf1 hf3 hfe (by omega) (fun q => h (Or.inl q))
