/-! visit: the class's search, choice by choice, with the numbers read off the memory -/
def mmC (iv : Nat → Nat → Int32) (t : Nat) : Nat := (r_wOperand iv 1 t).toNatClampNeg % 2
def uC (iv : Nat → Nat → Int32) (t : Nat) : Nat := (r_wOperand iv 1 t).toNatClampNeg % 4
theorem mmC_lt (iv : Nat → Nat → Int32) (t : Nat) : mmC iv t < 2 := Nat.mod_lt _ (by decide)
theorem uC_lt (iv : Nat → Nat → Int32) (t : Nat) : uC iv t < 4 := Nat.mod_lt _ (by decide)
def szC (iv : Nat → Nat → Int32) (t : Nat) : Nat := (iv (28 + 2 * 1 + mmC iv t) 2).toNatClampNeg
def mayC (iv : Nat → Nat → Int32) (t : Nat) (w : Int32) : Int32 := r_aMay iv 1 t (mmC iv t) (uC iv t) w
def takC (iv : Nat → Nat → Int32) (t : Nat) (w : Int32) : Nat → Nat → Int32 := m_aTake iv 1 t (mmC iv t) (uC iv t) w (szC iv t)
def okC (iv : Nat → Nat → Int32) (t : Nat) : Prop := okT iv 1 t (mmC iv t) (uC iv t)
def okD (iv : Nat → Nat → Int32) (t : Nat) : Prop := iv (28 + 2 * 1 + mmC iv t) 2 = nI (szC iv t) ∧ szC iv t ≤ 4 ∧ ∀ j, j < szC iv t → vp_in (iv (32 + 2 * 1 + mmC iv t) j) 4
def szK (iv : Nat → Nat → Int32) : Nat := (iv 38 0).toNatClampNeg
def kqK (ln : Nat → Nat) : Nat := ln 40 / 4
def eK (ln : Nat → Nat) : Nat := Nat.log2 (ln 40)
def okV (ln : Nat → Nat) (iv : Nat → Nat → Int32) : Prop := okK ln iv (szK iv) (kqK ln) (eK ln) ∧ szK iv ≤ kqK ln * 3 ∧ (¬ szK iv < kqK ln * 3 → eK ln ≤ 10)
def reS (a : Nat) (y : KM2) : KM2 := (y.1, m_sRest y.2.1 y.2.2 a, y.2.2)
def vK (x : KM2) (t w : Nat) : KM2 := kpX x.1 (takC x.2.1 t (nI w)) x.2.2 (szK (takC x.2.1 t (nI w))) (kqK x.1)
def vR (x : KM2) (t w : Nat) : Int32 := kpR x.1 (takC x.2.1 t (nI w)) x.2.2 (szK (takC x.2.1 t (nI w))) (kqK x.1)
def vS (a t w : Nat) (x : KM2 × Nat) : KM2 × Nat := if mayC x.1.2.1 t (nI w) = 0 then x else (reS a (vK x.1 t w), x.2 + 1)
def vI (a : Nat) (x : KM2) : Nat → KM2 × Nat
  | 0 => (reS a x, 0)
  | c + 1 => vS a (c / 4) (c % 4) (vI a x c)
theorem vI_s {a t w : Nat} {x : KM2} (hw : w < 4) : vI a x (4 * t + (w + 1)) = vS a t w (vI a x (4 * t + w)) := by
  rw [show 4 * t + (w + 1) = (4 * t + w) + 1 by omega, vI, show (4 * t + w) / 4 = t by omega, show (4 * t + w) % 4 = w by omega]
theorem vI_le {a : Nat} {x : KM2} : ∀ c, (vI a x c).2 ≤ c
  | 0 => Nat.le_refl 0
  | c + 1 => by
    have := vI_le (a := a) (x := x) c
    rw [vI, vS]
    split
    · omega
    · show (vI a x c).2 + 1 ≤ c + 1; omega
def okA (a t w : Nat) (x : KM2) : Prop := okC x.2.1 t ∧ (¬ mayC x.2.1 t (nI w) = 0 → okD x.2.1 t ∧ okV x.1 (takC x.2.1 t (nI w)) ∧ (vK x t w).1 39 < 2 ^ 31 ∧ 4 * a + 4 ≤ (vK x t w).1 39)
def fK (iv : Nat → Nat → Int32) : Nat := (iv 36 10).toNatClampNeg
def vmx (iv : Nat → Nat → Int32) (h : Nat) : Nat → Nat → Int32 := up2 iv 36 6 (if iv 36 6 < nI h then nI h else iv 36 6)
noncomputable def vF (a : Nat) (x : KM2) : KM2 := if nI (vI a x 16).2 = 0 then fiM (vI a x 16).1.1 (vmx (vI a x 16).1.2.1 (vI a x 16).2) (vI a x 16).1.2.2 (fK (vI a x 16).1.2.1) else ((vI a x 16).1.1, vmx (vI a x 16).1.2.1 (vI a x 16).2, (vI a x 16).1.2.2)
noncomputable def vM (a : Nat) (x : KM2) (K : Nat) : KM2 := if K = 16 then vF a x else vK (vI a x K).1 (K / 4) (K % 4)
/-- K choices are gone through; K = 16: all, else choice K finds no room -/
def okVis (a : Nat) (x : KM2) (K : Nat) : Prop := x.1 39 < 2 ^ 31 ∧ 4 * a + 4 ≤ x.1 39 ∧ K ≤ 16 ∧ (∀ c, c < K → okA a (c / 4) (c % 4) (vI a x c).1 ∧ (¬ mayC (vI a x c).1.2.1 (c / 4) (nI (c % 4)) = 0 → ¬ vR (vI a x c).1 (c / 4) (c % 4) = 0)) ∧
  (K < 16 → okA a (K / 4) (K % 4) (vI a x K).1 ∧ ¬ mayC (vI a x K).1.2.1 (K / 4) (nI (K % 4)) = 0 ∧ vR (vI a x K).1 (K / 4) (K % 4) = 0) ∧ (K = 16 → nI (vI a x 16).2 = 0 → okO2 (vI a x 16).1.1 (vI a x 16).1.2.1 (fK (vI a x 16).1.2.1) (Nat.log2 ((vI a x 16).1.1 41)))
theorem vK_c {x : KM2} {t w : Nat} (h : okV x.1 (takC x.2.1 t (nI w))) : cA x.1 ≤ cA (vK x t w).1 ∧ sA x.1 ≤ sA (vK x t w).1 := kpX_c h.1
theorem vI_up {a : Nat} {x : KM2} {c : Nat} (h : okA a (c / 4) (c % 4) (vI a x c).1) : cA (vI a x c).1.1 ≤ cA (vI a x (c + 1)).1.1 ∧ sA (vI a x c).1.1 ≤ sA (vI a x (c + 1)).1.1 := by
  rw [vI, vS]
  split
  · exact ⟨Nat.le_refl _, Nat.le_refl _⟩
  · rename_i hm
    exact vK_c (h.2 hm).2.1
theorem vI_lo {a : Nat} {x : KM2} {K : Nat} (h : okVis a x K) : ∀ c, c ≤ K → cA x.1 ≤ cA (vI a x c).1.1 ∧ sA x.1 ≤ sA (vI a x c).1.1
  | 0, _ => ⟨Nat.le_refl _, Nat.le_refl _⟩
  | c + 1, hc => by
    have h1 := vI_lo h c (by omega)
    have h2 := vI_up (h.2.2.2.1 c (by omega)).1
    omega
theorem vF_c {a : Nat} {x : KM2} (h : nI (vI a x 16).2 = 0 → okO2 (vI a x 16).1.1 (vI a x 16).1.2.1 (fK (vI a x 16).1.2.1) (Nat.log2 ((vI a x 16).1.1 41))) : cA (vI a x 16).1.1 ≤ cA (vF a x).1 ∧ sA (vI a x 16).1.1 ≤ sA (vF a x).1 := by
  unfold vF
  generalize vI a x 16 = y at h ⊢
  split
  · rename_i h0
    have h1 := h h0
    unfold fiM
    exact noM_c (g := Nat.log2 (y.1.1 41)) ⟨by rw [cf3_10]; unfold vmx; rw [up2_k (by decide)]; exact h1.1, h1.2⟩
  · exact ⟨Nat.le_refl _, Nat.le_refl _⟩
theorem vI_hi {a : Nat} {x : KM2} {K : Nat} (h : okVis a x K) : ∀ d c, c + d = K → cA (vI a x c).1.1 ≤ cA (vM a x K).1 ∧ sA (vI a x c).1.1 ≤ sA (vM a x K).1
  | 0, c, hc => by
    rw [show c = K by omega]
    unfold vM
    by_cases h16 : K = 16
    · rw [if_pos h16, h16]
      exact vF_c (h.2.2.2.2.2 h16)
    · rw [if_neg h16]
      have h1 := h.2.2.2.2.1 (by have := h.2.2.1; omega)
      exact vK_c (h1.1.2 h1.2.1).2.1
  | d + 1, c, hc => by
    have h1 := vI_hi h d (c + 1) (by omega)
    have h2 := vI_up (h.2.2.2.1 c (by omega)).1
    omega
set_option maxHeartbeats 4000000 in
set_option maxRecDepth 100000 in
theorem c_hVisit (l : Launch) (D : va_G) (gc : Nat → ClassId) (ad ln : Nat → Nat) (iv : Nat → Nat → Int32) (lv : Nat → Nat → Int64) (a K : Nat) (hok : okVis a (ln, iv, lv) K) : kMiX l yX3_visit wX3_visit ({ frames := 6, cells := cA (vM a (ln, iv, lv) K).1 - cA ln, slots := sA (vM a (ln, iv, lv) K).1 - sA ln, locals := 290 }) D vwCl (kT gc) 42 (kE gc) [.ref (ad 36), .int (nI a)] (ad, ln, iv, lv) (vM a (ln, iv, lv) K) (if K = 16 then 1 else 0) := by
  refine kiX_start (cc := cX3_visit) (maxL := 5) (ret := (some .boolean)) (by decide) rfl (Nat.le_of_ble_eq_true rfl) ?_
  intro p9 e9 s m9 below meth c9 A ls hx hb hr hts hown hlocks hml hA hK hP hD hS hl
  obtain ⟨M0, hM0⟩ : ∃ z : KM, z = (ad, ln, iv, lv) := ⟨_, rfl⟩
  rw [← hM0]
  have hag : ∀ c, c < 39 → ad c = M0.1 c := fun c _ => by rw [hM0]
  have hl : lv_has ls 5 [(0, .ref (ad 36)), (1, .int (nI a))] := hl
  have hown : s.vm.findClass "MonitorWays$Search" = some m9.cls := hown
  have hin_X3 : ∀ w ∈ u_ws "MonitorWays$Search" TX3 11, w ∈ wX3_visit := fun w h => tcons (inX3 w h)
  have lk_f18 := hts _ (tcons tw_180)
  have lk_f26 := hts _ (tcons tw_179)
  have lk_f44 := hts _ (tcons tw_177)
  have hlo0 := vI_hi hok K 0 (by omega)
  have hcln : cA ln ≤ cA (vM a (ln, iv, lv) K).1 := hlo0.1
  have hsln : sA ln ≤ sA (vM a (ln, iv, lv) K).1 := hlo0.2
  refine lv_aload_n hx hb dX3_visit_0 rfl (lv_at hl 0 rfl) ?_
  refine kr_get (C := "MonitorWays$Search") (T := TX3) (N := 11) hx hb hts hin_X3 hown hK hP 36 (by decide) (E_srch _ _ _ _) rfl 8 (by decide) lk_f18 (fun _ h9 => h9) rfl dX3_visit_1 ?_
  refine lv_iload_n hx hb dX3_visit_4 rfl (lv_at hl 1 rfl) ?_
  refine lv_aload_n hx hb dX3_visit_5 rfl (lv_at hl 0 rfl) ?_
  refine kr_get (C := "MonitorWays$Search") (T := TX3) (N := 11) hx hb hts hin_X3 hown hK hP 36 (by decide) (E_srch _ _ _ _) rfl 7 (by decide) lk_f26 (fun _ h9 => h9) rfl dX3_visit_6 ?_
  refine kr_callVv (As := [.int (nI a), .ref (ad (14 + 1))]) (rest := []) ⟨hx, hb, hml, hown, hts⟩ (c_sRest l D gc ad ln iv lv a hok.1 hok.2.1) (cwV 2 hts (goodV (fun _ h => tcons h) tw_480 tw_481 tw_482 tw_7 tw_483) rfl rfl rfl (by decide +kernel) ⟨Nat.le_of_ble_eq_true rfl, Nat.le_of_ble_eq_true rfl⟩) (kr_recv hK hP 38 (by decide) (E_sts _ _ _ _) rfl) hK hP hD hS hA rfl hl.1 rfl (Nat.le_of_ble_eq_true rfl) dX3_visit_9 ⟨by (try dsimp only [rX]) <;> omega, by (try dsimp only [rX]) <;> omega⟩ (fun H locs hP hD hS => ?_)
  have hP : va_P D vwCl (mW 42 (kE gc) (ad, (vI a (ln, iv, lv) (0)).1.1, (vI a (ln, iv, lv) (0)).1.2.1, (vI a (ln, iv, lv) (0)).1.2.2)) H := hP
  have hD : va_D A (mW 42 (kE gc) (ad, (vI a (ln, iv, lv) (0)).1.1, (vI a (ln, iv, lv) (0)).1.2.1, (vI a (ln, iv, lv) (0)).1.2.2)) := hD
  refine lv_iconst (v := 0) hx hb dX3_visit_12 (by decide) ?_
  refine lv_istore_n (lv' := [(2, .int 0), (0, .ref (ad 36)), (1, .int (nI a))]) hx hb dX3_visit_13 rfl hl (by decide) rfl (fun ls hl => ?_)
  refine lv_iconst (v := 0) hx hb dX3_visit_14 (by decide) ?_
  refine lv_istore_n (lv' := [(3, .int 0), (2, .int 0), (0, .ref (ad 36)), (1, .int (nI a))]) hx hb dX3_visit_15 rfl hl (by decide) rfl (fun ls hl => ?_)
  refine kr_loopC (σ := Nat × ((Nat → Nat))) (fun z9 => match z9 with | (t, ad) => 4 - t) (fun z9 => match z9 with | (t, ad) => cA (vI a (ln, iv, lv) (4 * t)).1.1 - cA ln) (fun z9 => match z9 with | (t, ad) => sA (vI a (ln, iv, lv) (4 * t)).1.1 - sA ln) (fun z9 H locs ls => match z9 with | (t, ad) => (t ≤ 4) ∧ (4 * t ≤ K) ∧ (∀ c, c < 39 → ad c = M0.1 c) ∧ va_P D vwCl (mW 42 (kE gc) (ad, (vI a (ln, iv, lv) (4 * t)).1.1, (vI a (ln, iv, lv) (4 * t)).1.2.1, (vI a (ln, iv, lv) (4 * t)).1.2.2)) H ∧ va_D A (mW 42 (kE gc) (ad, (vI a (ln, iv, lv) (4 * t)).1.1, (vI a (ln, iv, lv) (4 * t)).1.2.1, (vI a (ln, iv, lv) (4 * t)).1.2.2)) ∧ va_S A s.heap H locs ∧ lv_has ls 5 [(0, .ref (ad 36)), (1, .int (nI a)), (2, .int (nI (vI a (ln, iv, lv) (4 * t)).2)), (3, .int (nI t))]) 16 (0, ad) ⟨Nat.zero_le _, Nat.zero_le _, hag, hP, hD, hS, lv_sub hl [2, 3, 1, 0] rfl⟩ (by show 0 = cA ln - cA ln; omega) (by show 0 = sA ln - sA ln; omega) ?_
  intro z9 H locs ls hI iho
  obtain ⟨t, ad⟩ := z9
  obtain ⟨ht, htK, hag, hP, hD, hS, hl⟩ := hI
  refine W_room (cells' := cA (vI a (ln, iv, lv) (4 * t)).1.1 - cA ln) (slots' := sA (vI a (ln, iv, lv) (4 * t)).1.1 - sA ln) rfl rfl ?_
  refine lv_iload_n hx hb dX3_visit_16 rfl (lv_at hl 3 rfl) ?_
  refine lv_iconst (v := 4) hx hb dX3_visit_17 (by decide) ?_
  refine lv_icmp_ge (tgt := 96) hx hb dX3_visit_18 (by decide) (fun c_1 => ?_) (fun c_1 => ?_)
  · have hte : t = 4 := by have := (nI_leI (a := 4) (by decide) (by omega)).mp c_1; omega
    have hK16 : K = 16 := by have := hok.2.2.1; omega
    have e16 : 4 * t = 16 := by omega
    rw [e16] at hP hD hl
    obtain ⟨y, hy⟩ : ∃ z, z = vI a (ln, iv, lv) 16 := ⟨_, rfl⟩
    rw [← hy] at hP hD hl
    have hlo := vI_lo hok 16 (by omega)
    have hhi := vI_hi hok 0 16 (by omega)
    rw [← hy] at hlo hhi
    have hlo1 : cA ln ≤ cA y.1.1 := hlo.1
    have hlo2 : sA ln ≤ sA y.1.1 := hlo.2
    refine W_room (cells' := cA y.1.1 - cA ln) (slots' := sA y.1.1 - sA ln) (by rw [hy, ← e16]) (by rw [hy, ← e16]) ?_
    refine lv_aload_n hx hb dX3_visit_96 rfl (lv_at hl 0 rfl) ?_
    refine lv_aload_n hx hb dX3_visit_97 rfl (lv_at hl 0 rfl) ?_
    refine kr_get (C := "MonitorWays$Search") (T := TX3) (N := 11) hx hb hts hin_X3 hown hK hP 36 (by decide) (E_srch _ _ _ _) rfl 6 (by decide) lk_f44 (fun _ h9 => h9) rfl dX3_visit_98 ?_
    refine lv_iload_n hx hb dX3_visit_101 rfl (lv_at hl 2 rfl) ?_
    refine va_mmax hx hb (hml.trans hl.1.symm) hown (hts _ (tcons tw_501)) (hts _ (tcons tw_502)) (hts _ (tcons tw_10)) (hts _ (tcons tw_503)) (Nat.le_of_ble_eq_true rfl) (Nat.le_of_ble_eq_true rfl) (by (try dsimp only [rX]) <;> omega) (by (try dsimp only [rX]) <;> omega) dX3_visit_102 ?_
    refine kr_put (C := "MonitorWays$Search") (T := TX3) (N := 11) hx hb hts hin_X3 tyX3 ok_tyX3 ok_nX3 hown hK hP hD hS 36 (by decide) (fun _ => E_srch _ _ _ _) rfl 6 (by decide) lk_f44 (fun _ h9 => h9) rfl rfl rfl rfl (fun _ => Nat.le_of_ble_eq_true rfl) (fun _ => rfl) dX3_visit_105 (fun H locs hP hD hS => ?_)
    have hP : va_P D vwCl (mW 42 (kE gc) (ad, y.1.1, (vmx y.1.2.1 y.2), y.1.2.2)) H := hP
    have hD : va_D A (mW 42 (kE gc) (ad, y.1.1, (vmx y.1.2.1 y.2), y.1.2.2)) := hD
    refine lv_iload_n hx hb dX3_visit_108 rfl (lv_at hl 2 rfl) ?_
    refine lv_if_ne (tgt := 116) hx hb dX3_visit_109 (by decide) (fun c_2 => ?_) (fun c_2 => ?_)
    · have hMF : vM a (ln, iv, lv) K = (y.1.1, (vmx y.1.2.1 y.2), y.1.2.2) := by unfold vM; rw [if_pos hK16]; unfold vF; rw [← hy, if_neg c_2]
      rw [hMF] at hhi ⊢
      refine lv_iconst (v := 1) hx hb dX3_visit_116 (by decide) ?_
      refine W_room (cells' := cA y.1.1 - cA ln) (slots' := sA y.1.1 - sA ln) (by (try dsimp only [rX]) <;> omega) (by (try dsimp only [rX]) <;> omega) ?_
      exact kr_zretX (M := M0) hx hb hr hlocks hK hP hD hS (by decide) (if_pos hK16).symm rfl hag dX3_visit_117
    · have hO := hok.2.2.2.2.2 hK16
      rw [← hy] at hO
      have hO := hO c_2
      have hMF : vM a (ln, iv, lv) K = (fiM y.1.1 (vmx y.1.2.1 y.2) y.1.2.2 (fK y.1.2.1)) := by unfold vM; rw [if_pos hK16]; unfold vF; rw [← hy, if_pos c_2]
      have hO2 : okO2 y.1.1 (vmx y.1.2.1 y.2) (fK y.1.2.1) (Nat.log2 (y.1.1 41)) := ⟨by unfold vmx; rw [up2_k (by decide)]; exact hO.1, hO.2⟩
      rw [hMF] at hhi ⊢
      refine lv_aload_n hx hb dX3_visit_112 rfl (lv_at hl 0 rfl) ?_
      refine kr_callVvX (As := []) (rest := []) ⟨hx, hb, hml, hown, hts⟩ (c_hFin l D gc ad y.1.1 (vmx y.1.2.1 y.2) y.1.2.2 (fK y.1.2.1) (Nat.log2 (y.1.1 41)) hO2) (cwV 0 hts (goodV (fun _ h => tcons h) tw_504 tw_506 ts_21 tw_6 tw_507) rfl rfl rfl (by decide +kernel) ⟨Nat.le_of_ble_eq_true rfl, Nat.le_of_ble_eq_true rfl⟩) (kr_recv hK hP 36 (by decide) (E_srch _ _ _ _) rfl) hK hP hD hS hA rfl hl.1 rfl (Nat.le_of_ble_eq_true rfl) dX3_visit_113 ⟨by (try dsimp only [rX]) <;> omega, by (try dsimp only [rX]) <;> omega⟩ (fun ad1 H locs hag1 hP hD hS => ?_)
      have eq0 : ad 36 = ad1 36 := (hag1 36 (by decide)).symm
      rw [eq0] at hl
      have hag : ∀ c, c < 39 → ad1 c = M0.1 c := fun c hc => (hag1 c hc).trans (hag c hc)
      clear eq0
      obtain ⟨ad, had⟩ : ∃ z : Nat → Nat, z = ad1 := ⟨_, rfl⟩
      rw [← had] at hP hD hl hag
      refine lv_iconst (v := 1) hx hb dX3_visit_116 (by decide) ?_
      refine W_room (cells' := cA (fiM y.1.1 (vmx y.1.2.1 y.2) y.1.2.2 (fK y.1.2.1)).1 - cA ln) (slots' := sA (fiM y.1.1 (vmx y.1.2.1 y.2) y.1.2.2 (fK y.1.2.1)).1 - sA ln) (by (try dsimp only [rX]) <;> omega) (by (try dsimp only [rX]) <;> omega) ?_
      exact kr_zretX (M := M0) hx hb hr hlocks hK hP hD hS (by decide) (if_pos hK16).symm rfl hag dX3_visit_117
  · have ht4 : t < 4 := lt_of_nle (a := 4) (by decide) (by omega) c_1
    refine lv_iconst (v := 0) hx hb dX3_visit_21 (by decide) ?_
    refine lv_istore (lv' := [(4, .int 0), (0, .ref (ad 36)), (1, .int (nI a)), (2, .int (nI (vI a (ln, iv, lv) (4 * t)).2)), (3, .int (nI t))]) hx hb dX3_visit_22 hl (by decide) rfl (fun ls hl => ?_)
    refine kr_loopC (σ := Nat × ((Nat → Nat))) (fun z9 => match z9 with | (w, ad) => 4 - w) (fun z9 => match z9 with | (w, ad) => cA (vI a (ln, iv, lv) (4 * t + w)).1.1 - cA ln) (fun z9 => match z9 with | (w, ad) => sA (vI a (ln, iv, lv) (4 * t + w)).1.1 - sA ln) (fun z9 H locs ls => match z9 with | (w, ad) => (w ≤ 4) ∧ (4 * t + w ≤ K) ∧ (∀ c, c < 39 → ad c = M0.1 c) ∧ va_P D vwCl (mW 42 (kE gc) (ad, (vI a (ln, iv, lv) (4 * t + w)).1.1, (vI a (ln, iv, lv) (4 * t + w)).1.2.1, (vI a (ln, iv, lv) (4 * t + w)).1.2.2)) H ∧ va_D A (mW 42 (kE gc) (ad, (vI a (ln, iv, lv) (4 * t + w)).1.1, (vI a (ln, iv, lv) (4 * t + w)).1.2.1, (vI a (ln, iv, lv) (4 * t + w)).1.2.2)) ∧ va_S A s.heap H locs ∧ lv_has ls 5 [(0, .ref (ad 36)), (1, .int (nI a)), (2, .int (nI (vI a (ln, iv, lv) (4 * t + w)).2)), (3, .int (nI t)), (4, .int (nI w))]) 24 (0, ad) ⟨Nat.zero_le _, htK, hag, hP, hD, hS, lv_sub hl [1, 2, 3, 4, 0] rfl⟩ rfl rfl ?_
    intro z9 H locs ls hI ihi
    obtain ⟨w, ad⟩ := z9
    obtain ⟨hw, hwK, hag, hP, hD, hS, hl⟩ := hI
    refine W_room (cells' := cA (vI a (ln, iv, lv) (4 * t + w)).1.1 - cA ln) (slots' := sA (vI a (ln, iv, lv) (4 * t + w)).1.1 - sA ln) rfl rfl ?_
    refine lv_iload hx hb dX3_visit_24 (lv_at hl 4 rfl) ?_
    refine lv_iconst (v := 4) hx hb dX3_visit_26 (by decide) ?_
    refine lv_icmp_ge (tgt := 90) hx hb dX3_visit_27 (by decide) (fun c_3 => ?_) (fun c_3 => ?_)
    · have hwe : 4 = w := by have := (nI_leI (a := 4) (by decide) (by omega)).mp c_3; omega
      subst hwe
      refine lv_iinc (v := nI (t + 1)) (lv' := [(3, .int (nI (t + 1))), (0, .ref (ad 36)), (1, .int (nI a)), (2, .int (nI (vI a (ln, iv, lv) (4 * t + 4)).2)), (4, .int (nI 4))]) hx hb dX3_visit_90 hl (k := 3) rfl (nI_1 t) (by decide) rfl (fun ls hl => ?_)
      refine lv_goto (tgt := 16) hx hb dX3_visit_93 (by decide) ?_
      have e44 : 4 * t + 4 = 4 * (t + 1) := by omega
      rw [e44] at hP hD hl
      refine W_room (cells' := cA (vI a (ln, iv, lv) (4 * (t + 1))).1.1 - cA ln) (slots' := sA (vI a (ln, iv, lv) (4 * (t + 1))).1.1 - sA ln) (by rw [← e44]) (by rw [← e44]) ?_
      exact iho (t + 1, ad) H locs ls ⟨by omega, by omega, hag, hP, hD, hS, lv_sub hl [1, 2, 3, 0] rfl⟩ (by show 4 - (t + 1) < 4 - t; omega)
    · have hw4 : w < 4 := lt_of_nle (a := 4) (by decide) (by omega) c_3
      have ec1 : (4 * t + w) / 4 = t := by omega
      have ec2 : (4 * t + w) % 4 = w := by omega
      have hAA : okA a t w (vI a (ln, iv, lv) (4 * t + w)).1 := by
        rcases Nat.lt_or_ge (4 * t + w) K with h | h
        · have h9 := (hok.2.2.2.1 (4 * t + w) h).1; rw [ec1, ec2] at h9; exact h9
        · have h9 := (hok.2.2.2.2.1 (by omega)).1; rw [show K = 4 * t + w by omega, ec1, ec2] at h9; exact h9
      have hlo := vI_lo hok (4 * t + w) (by omega)
      have hhi := vI_hi hok (K - (4 * t + w)) (4 * t + w) (by omega)
      have hlo1 : cA ln ≤ cA (vI a (ln, iv, lv) (4 * t + w)).1.1 := hlo.1
      have hlo2 : sA ln ≤ sA (vI a (ln, iv, lv) (4 * t + w)).1.1 := hlo.2
      refine lv_aload_n hx hb dX3_visit_30 rfl (lv_at hl 0 rfl) ?_
      refine kr_get (C := "MonitorWays$Search") (T := TX3) (N := 11) hx hb hts hin_X3 hown hK hP 36 (by decide) (E_srch _ _ _ _) rfl 7 (by decide) lk_f26 (fun _ h9 => h9) rfl dX3_visit_31 ?_
      refine lv_iload_n hx hb dX3_visit_34 rfl (lv_at hl 3 rfl) ?_
      refine lv_iload hx hb dX3_visit_35 (lv_at hl 4 rfl) ?_
      refine kr_callVi (As := [.int (nI t), .int (nI w)]) (rest := []) ⟨hx, hb, hml, hown, hts⟩ (c_aMay l D gc ad (vI a (ln, iv, lv) (4 * t + w)).1.1 (vI a (ln, iv, lv) (4 * t + w)).1.2.1 (vI a (ln, iv, lv) (4 * t + w)).1.2.2 1 t (mmC (vI a (ln, iv, lv) (4 * t + w)).1.2.1 t) (uC (vI a (ln, iv, lv) (4 * t + w)).1.2.1 t) (by decide) (by omega) (mmC_lt _ _) (uC_lt _ _) (nI w) hAA.1) (cwV 2 hts (goodV (fun _ h => tcons h) tw_499 tw_253 tw_254 tw_3 tw_255) rfl rfl rfl (by decide +kernel) ⟨Nat.le_of_ble_eq_true rfl, Nat.le_of_ble_eq_true rfl⟩) (kr_recv hK hP (14 + 1) (by omega) (E_mach (by decide) _ _ _ _) rfl) hK hP hD hS hA rfl hl.1 rfl (Nat.le_of_ble_eq_true rfl) dX3_visit_37 ⟨by (try dsimp only [rX]) <;> omega, by (try dsimp only [rX]) <;> omega⟩ (fun H locs hP hD hS => ?_)
      refine kr_topi (y := mayC (vI a (ln, iv, lv) (4 * t + w)).1.2.1 t (nI w)) rfl ?_
      refine lv_if_eq (tgt := 84) hx hb dX3_visit_40 (by decide) (fun c_4 => ?_) (fun c_4 => ?_)
      · refine lv_iinc (v := nI (w + 1)) (lv' := [(4, .int (nI (w + 1))), (0, .ref (ad 36)), (1, .int (nI a)), (2, .int (nI (vI a (ln, iv, lv) (4 * t + w)).2)), (3, .int (nI t))]) hx hb dX3_visit_84 hl (k := 4) rfl (nI_1 w) (by decide) rfl (fun ls hl => ?_)
        refine lv_goto (tgt := 24) hx hb dX3_visit_87 (by decide) ?_
        have eV : (vI a (ln, iv, lv) (4 * t + (w + 1))) = (vI a (ln, iv, lv) (4 * t + w)) := by rw [vI_s hw4, vS, if_pos c_4]
        have hlK : 4 * t + w < K := by rcases Nat.lt_or_ge (4 * t + w) K with h | h; exact h; exact absurd c_4 (by have h9 := (hok.2.2.2.2.1 (by omega)).2.1; rw [show K = 4 * t + w by omega, ec1, ec2] at h9; exact h9)
        have hP : va_P D vwCl (mW 42 (kE gc) (ad, (vI a (ln, iv, lv) (4 * t + (w + 1))).1.1, (vI a (ln, iv, lv) (4 * t + (w + 1))).1.2.1, (vI a (ln, iv, lv) (4 * t + (w + 1))).1.2.2)) H := by rw [eV]; exact hP
        have hD : va_D A (mW 42 (kE gc) (ad, (vI a (ln, iv, lv) (4 * t + (w + 1))).1.1, (vI a (ln, iv, lv) (4 * t + (w + 1))).1.2.1, (vI a (ln, iv, lv) (4 * t + (w + 1))).1.2.2)) := by rw [eV]; exact hD
        have hl : lv_has ls 5 [(4, .int (nI (w + 1))), (0, .ref (ad 36)), (1, .int (nI a)), (2, .int (nI (vI a (ln, iv, lv) (4 * t + (w + 1))).2)), (3, .int (nI t))] := by rw [eV]; exact hl
        have hce : cA (vI a (ln, iv, lv) (4 * t + (w + 1))).1.1 = cA (vI a (ln, iv, lv) (4 * t + w)).1.1 ∧ sA (vI a (ln, iv, lv) (4 * t + (w + 1))).1.1 = sA (vI a (ln, iv, lv) (4 * t + w)).1.1 := by rw [eV]; exact ⟨rfl, rfl⟩
        refine W_room (cells' := cA (vI a (ln, iv, lv) (4 * t + (w + 1))).1.1 - cA ln) (slots' := sA (vI a (ln, iv, lv) (4 * t + (w + 1))).1.1 - sA ln) (by (try dsimp only [rX]) <;> omega) (by (try dsimp only [rX]) <;> omega) ?_
        exact ihi (w + 1, ad) H locs ls ⟨by omega, by omega, hag, hP, hD, hS, lv_sub hl [1, 2, 3, 4, 0] rfl⟩ (by show 4 - (w + 1) < 4 - w; omega)
      · have hB := hAA.2 c_4
        have hk1 : cA (vI a (ln, iv, lv) (4 * t + w)).1.1 ≤ cA (kpX (vI a (ln, iv, lv) (4 * t + w)).1.1 (takC (vI a (ln, iv, lv) (4 * t + w)).1.2.1 t (nI w)) (vI a (ln, iv, lv) (4 * t + w)).1.2.2 (szK (takC (vI a (ln, iv, lv) (4 * t + w)).1.2.1 t (nI w))) (kqK (vI a (ln, iv, lv) (4 * t + w)).1.1)).1 := (vK_c hB.2.1).1
        have hk2 : sA (vI a (ln, iv, lv) (4 * t + w)).1.1 ≤ sA (kpX (vI a (ln, iv, lv) (4 * t + w)).1.1 (takC (vI a (ln, iv, lv) (4 * t + w)).1.2.1 t (nI w)) (vI a (ln, iv, lv) (4 * t + w)).1.2.2 (szK (takC (vI a (ln, iv, lv) (4 * t + w)).1.2.1 t (nI w))) (kqK (vI a (ln, iv, lv) (4 * t + w)).1.1)).1 := (vK_c hB.2.1).2
        have hk3 : cA (kpX (vI a (ln, iv, lv) (4 * t + w)).1.1 (takC (vI a (ln, iv, lv) (4 * t + w)).1.2.1 t (nI w)) (vI a (ln, iv, lv) (4 * t + w)).1.2.2 (szK (takC (vI a (ln, iv, lv) (4 * t + w)).1.2.1 t (nI w))) (kqK (vI a (ln, iv, lv) (4 * t + w)).1.1)).1 ≤ cA (vM a (ln, iv, lv) K).1 ∧ sA (kpX (vI a (ln, iv, lv) (4 * t + w)).1.1 (takC (vI a (ln, iv, lv) (4 * t + w)).1.2.1 t (nI w)) (vI a (ln, iv, lv) (4 * t + w)).1.2.2 (szK (takC (vI a (ln, iv, lv) (4 * t + w)).1.2.1 t (nI w))) (kqK (vI a (ln, iv, lv) (4 * t + w)).1.1)).1 ≤ sA (vM a (ln, iv, lv) K).1 := by
          rcases Nat.lt_or_ge (4 * t + w) K with h | h
          · have h9 := vI_hi hok (K - (4 * t + (w + 1))) (4 * t + (w + 1)) (by omega); rw [vI_s hw4, vS, if_neg c_4] at h9; exact h9
          · have hKe : K = 4 * t + w := by omega
            have h9 : vM a (ln, iv, lv) K = (kpX (vI a (ln, iv, lv) (4 * t + w)).1.1 (takC (vI a (ln, iv, lv) (4 * t + w)).1.2.1 t (nI w)) (vI a (ln, iv, lv) (4 * t + w)).1.2.2 (szK (takC (vI a (ln, iv, lv) (4 * t + w)).1.2.1 t (nI w))) (kqK (vI a (ln, iv, lv) (4 * t + w)).1.1)) := by unfold vM; rw [if_neg (by omega), hKe, ec1, ec2]; rfl
            rw [h9]; exact ⟨Nat.le_refl _, Nat.le_refl _⟩
        refine lv_iinc (v := nI ((vI a (ln, iv, lv) (4 * t + w)).2 + 1)) (lv' := [(2, .int (nI ((vI a (ln, iv, lv) (4 * t + w)).2 + 1))), (0, .ref (ad 36)), (1, .int (nI a)), (3, .int (nI t)), (4, .int (nI w))]) hx hb dX3_visit_43 hl (k := 2) rfl (nI_1 _) (by decide) rfl (fun ls hl => ?_)
        refine lv_aload_n hx hb dX3_visit_46 rfl (lv_at hl 1 rfl) ?_
        refine kr_get (C := "MonitorWays$Search") (T := TX3) (N := 11) hx hb hts hin_X3 hown hK hP 36 (by decide) (E_srch _ _ _ _) rfl 7 (by decide) lk_f26 (fun _ h9 => h9) rfl dX3_visit_47 ?_
        refine lv_iload_n hx hb dX3_visit_50 rfl (lv_at hl 3 rfl) ?_
        refine lv_iload hx hb dX3_visit_51 (lv_at hl 4 rfl) ?_
        refine kr_callVv (As := [.int (nI t), .int (nI w)]) (rest := []) ⟨hx, hb, hml, hown, hts⟩ (c_aTake l D gc ad (vI a (ln, iv, lv) (4 * t + w)).1.1 (vI a (ln, iv, lv) (4 * t + w)).1.2.1 (vI a (ln, iv, lv) (4 * t + w)).1.2.2 1 t (mmC (vI a (ln, iv, lv) (4 * t + w)).1.2.1 t) (uC (vI a (ln, iv, lv) (4 * t + w)).1.2.1 t) (by decide) (by omega) (mmC_lt _ _) (uC_lt _ _) (nI w) hAA.1 (szC (vI a (ln, iv, lv) (4 * t + w)).1.2.1 t) hB.1.1 hB.1.2.1 hB.1.2.2) (cwV 2 hts (goodV (fun _ h => tcons h) tw_500 tw_293 tw_294 tw_3 tw_295) rfl rfl rfl (by decide +kernel) ⟨Nat.le_of_ble_eq_true rfl, Nat.le_of_ble_eq_true rfl⟩) (kr_recv hK hP (14 + 1) (by omega) (E_mach (by decide) _ _ _ _) rfl) hK hP hD hS hA rfl hl.1 rfl (Nat.le_of_ble_eq_true rfl) dX3_visit_53 ⟨by (try dsimp only [rX]) <;> omega, by (try dsimp only [rX]) <;> omega⟩ (fun H locs hP hD hS => ?_)
        have hP : va_P D vwCl (mW 42 (kE gc) (ad, (vI a (ln, iv, lv) (4 * t + w)).1.1, (takC (vI a (ln, iv, lv) (4 * t + w)).1.2.1 t (nI w)), (vI a (ln, iv, lv) (4 * t + w)).1.2.2)) H := hP
        have hD : va_D A (mW 42 (kE gc) (ad, (vI a (ln, iv, lv) (4 * t + w)).1.1, (takC (vI a (ln, iv, lv) (4 * t + w)).1.2.1 t (nI w)), (vI a (ln, iv, lv) (4 * t + w)).1.2.2)) := hD
        refine lv_aload_n hx hb dX3_visit_56 rfl (lv_at hl 1 rfl) ?_
        refine kr_get (C := "MonitorWays$Search") (T := TX3) (N := 11) hx hb hts hin_X3 hown hK hP 36 (by decide) (E_srch _ _ _ _) rfl 8 (by decide) lk_f18 (fun _ h9 => h9) rfl dX3_visit_57 ?_
        refine lv_aload_n hx hb dX3_visit_60 rfl (lv_at hl 1 rfl) ?_
        refine kr_get (C := "MonitorWays$Search") (T := TX3) (N := 11) hx hb hts hin_X3 hown hK hP 36 (by decide) (E_srch _ _ _ _) rfl 7 (by decide) lk_f26 (fun _ h9 => h9) rfl dX3_visit_61 ?_
        refine kr_callViX (As := [.ref (ad (14 + 1))]) (rest := []) ⟨hx, hb, hml, hown, hts⟩ (c_keepX l D gc ad (vI a (ln, iv, lv) (4 * t + w)).1.1 (takC (vI a (ln, iv, lv) (4 * t + w)).1.2.1 t (nI w)) (vI a (ln, iv, lv) (4 * t + w)).1.2.2 (szK (takC (vI a (ln, iv, lv) (4 * t + w)).1.2.1 t (nI w))) (kqK (vI a (ln, iv, lv) (4 * t + w)).1.1) (eK (vI a (ln, iv, lv) (4 * t + w)).1.1) hB.2.1.1 hB.2.1.2.1 hB.2.1.2.2) (cwV 1 hts (goodV (fun _ h => tcons h) tw_423 tw_424 tw_425 tw_7 tw_426) rfl rfl rfl (by decide +kernel) ⟨Nat.le_of_ble_eq_true rfl, Nat.le_of_ble_eq_true rfl⟩) (kr_recv hK hP 38 (by decide) (E_sts _ _ _ _) rfl) hK hP hD hS hA rfl hl.1 rfl (Nat.le_of_ble_eq_true rfl) dX3_visit_64 ⟨by (try dsimp only [rX]) <;> omega, by (try dsimp only [rX]) <;> omega⟩ (fun ad1 H locs hag1 hP hD hS => ?_)
        have eq0 : ad 36 = ad1 36 := (hag1 36 (by decide)).symm
        rw [eq0] at hl
        have hag : ∀ c, c < 39 → ad1 c = M0.1 c := fun c hc => (hag1 c hc).trans (hag c hc)
        clear eq0
        obtain ⟨ad, had⟩ : ∃ z : Nat → Nat, z = ad1 := ⟨_, rfl⟩
        rw [← had] at hP hD hl hag
        refine kr_topi (y := vR (vI a (ln, iv, lv) (4 * t + w)).1 t w) rfl ?_
        refine lv_if_ne (tgt := 72) hx hb dX3_visit_67 (by decide) (fun c_5 => ?_) (fun c_5 => ?_)
        · have hP : va_P D vwCl (mW 42 (kE gc) (ad, (vK (vI a (ln, iv, lv) (4 * t + w)).1 t w).1, (vK (vI a (ln, iv, lv) (4 * t + w)).1 t w).2.1, (vK (vI a (ln, iv, lv) (4 * t + w)).1 t w).2.2)) H := hP
          have hD : va_D A (mW 42 (kE gc) (ad, (vK (vI a (ln, iv, lv) (4 * t + w)).1 t w).1, (vK (vI a (ln, iv, lv) (4 * t + w)).1 t w).2.1, (vK (vI a (ln, iv, lv) (4 * t + w)).1 t w).2.2)) := hD
          refine lv_aload_n hx hb dX3_visit_72 rfl (lv_at hl 1 rfl) ?_
          refine kr_get (C := "MonitorWays$Search") (T := TX3) (N := 11) hx hb hts hin_X3 hown hK hP 36 (by decide) (E_srch _ _ _ _) rfl 8 (by decide) lk_f18 (fun _ h9 => h9) rfl dX3_visit_73 ?_
          refine lv_iload_n hx hb dX3_visit_76 rfl (lv_at hl 2 rfl) ?_
          refine lv_aload_n hx hb dX3_visit_77 rfl (lv_at hl 1 rfl) ?_
          refine kr_get (C := "MonitorWays$Search") (T := TX3) (N := 11) hx hb hts hin_X3 hown hK hP 36 (by decide) (E_srch _ _ _ _) rfl 7 (by decide) lk_f26 (fun _ h9 => h9) rfl dX3_visit_78 ?_
          refine kr_callVv (As := [.int (nI a), .ref (ad (14 + 1))]) (rest := []) ⟨hx, hb, hml, hown, hts⟩ (c_sRest l D gc ad (vK (vI a (ln, iv, lv) (4 * t + w)).1 t w).1 (vK (vI a (ln, iv, lv) (4 * t + w)).1 t w).2.1 (vK (vI a (ln, iv, lv) (4 * t + w)).1 t w).2.2 a hB.2.2.1 hB.2.2.2) (cwV 2 hts (goodV (fun _ h => tcons h) tw_480 tw_481 tw_482 tw_7 tw_483) rfl rfl rfl (by decide +kernel) ⟨Nat.le_of_ble_eq_true rfl, Nat.le_of_ble_eq_true rfl⟩) (kr_recv hK hP 38 (by decide) (E_sts _ _ _ _) rfl) hK hP hD hS hA rfl hl.1 rfl (Nat.le_of_ble_eq_true rfl) dX3_visit_81 ⟨by (try dsimp only [rX]) <;> omega, by (try dsimp only [rX]) <;> omega⟩ (fun H locs hP hD hS => ?_)
          refine lv_iinc (v := nI (w + 1)) (lv' := [(4, .int (nI (w + 1))), (2, .int (nI ((vI a (ln, iv, lv) (4 * t + w)).2 + 1))), (0, .ref (ad 36)), (1, .int (nI a)), (3, .int (nI t))]) hx hb dX3_visit_84 hl (k := 4) rfl (nI_1 w) (by decide) rfl (fun ls hl => ?_)
          refine lv_goto (tgt := 24) hx hb dX3_visit_87 (by decide) ?_
          have eV : (vI a (ln, iv, lv) (4 * t + (w + 1))) = (reS a (vK (vI a (ln, iv, lv) (4 * t + w)).1 t w), (vI a (ln, iv, lv) (4 * t + w)).2 + 1) := by rw [vI_s hw4, vS, if_neg c_4]
          have hlK : 4 * t + w < K := by rcases Nat.lt_or_ge (4 * t + w) K with h | h; exact h; exact absurd (by have h9 := (hok.2.2.2.2.1 (by omega)).2.2; rw [show K = 4 * t + w by omega, ec1, ec2] at h9; exact h9) c_5
          have hP : va_P D vwCl (mW 42 (kE gc) (ad, (vI a (ln, iv, lv) (4 * t + (w + 1))).1.1, (vI a (ln, iv, lv) (4 * t + (w + 1))).1.2.1, (vI a (ln, iv, lv) (4 * t + (w + 1))).1.2.2)) H := by rw [eV]; exact hP
          have hD : va_D A (mW 42 (kE gc) (ad, (vI a (ln, iv, lv) (4 * t + (w + 1))).1.1, (vI a (ln, iv, lv) (4 * t + (w + 1))).1.2.1, (vI a (ln, iv, lv) (4 * t + (w + 1))).1.2.2)) := by rw [eV]; exact hD
          have hl : lv_has ls 5 [(4, .int (nI (w + 1))), (2, .int (nI (vI a (ln, iv, lv) (4 * t + (w + 1))).2)), (0, .ref (ad 36)), (1, .int (nI a)), (3, .int (nI t))] := by rw [eV]; exact hl
          have hce : cA (vI a (ln, iv, lv) (4 * t + (w + 1))).1.1 = cA (kpX (vI a (ln, iv, lv) (4 * t + w)).1.1 (takC (vI a (ln, iv, lv) (4 * t + w)).1.2.1 t (nI w)) (vI a (ln, iv, lv) (4 * t + w)).1.2.2 (szK (takC (vI a (ln, iv, lv) (4 * t + w)).1.2.1 t (nI w))) (kqK (vI a (ln, iv, lv) (4 * t + w)).1.1)).1 ∧ sA (vI a (ln, iv, lv) (4 * t + (w + 1))).1.1 = sA (kpX (vI a (ln, iv, lv) (4 * t + w)).1.1 (takC (vI a (ln, iv, lv) (4 * t + w)).1.2.1 t (nI w)) (vI a (ln, iv, lv) (4 * t + w)).1.2.2 (szK (takC (vI a (ln, iv, lv) (4 * t + w)).1.2.1 t (nI w))) (kqK (vI a (ln, iv, lv) (4 * t + w)).1.1)).1 := by rw [eV]; exact ⟨rfl, rfl⟩
          refine W_room (cells' := cA (vI a (ln, iv, lv) (4 * t + (w + 1))).1.1 - cA ln) (slots' := sA (vI a (ln, iv, lv) (4 * t + (w + 1))).1.1 - sA ln) (by (try dsimp only [rX]) <;> omega) (by (try dsimp only [rX]) <;> omega) ?_
          exact ihi (w + 1, ad) H locs ls ⟨by omega, by omega, hag, hP, hD, hS, lv_sub hl [2, 3, 1, 4, 0] rfl⟩ (by show 4 - (w + 1) < 4 - w; omega)
        · have hKe : K = 4 * t + w := by rcases Nat.lt_or_ge (4 * t + w) K with h | h; exact absurd c_5 (by have h9 := (hok.2.2.2.1 (4 * t + w) h).2; rw [ec1, ec2] at h9; exact h9 c_4); omega
          refine lv_iconst (v := 0) hx hb dX3_visit_70 (by decide) ?_
          refine W_room (cells' := cA (vM a (ln, iv, lv) K).1 - cA ln) (slots' := sA (vM a (ln, iv, lv) K).1 - sA ln) (by have h9 : cA (vM a (ln, iv, lv) K).1 = cA (kpX (vI a (ln, iv, lv) (4 * t + w)).1.1 (takC (vI a (ln, iv, lv) (4 * t + w)).1.2.1 t (nI w)) (vI a (ln, iv, lv) (4 * t + w)).1.2.2 (szK (takC (vI a (ln, iv, lv) (4 * t + w)).1.2.1 t (nI w))) (kqK (vI a (ln, iv, lv) (4 * t + w)).1.1)).1 := (by rw [show vM a (ln, iv, lv) K = (kpX (vI a (ln, iv, lv) (4 * t + w)).1.1 (takC (vI a (ln, iv, lv) (4 * t + w)).1.2.1 t (nI w)) (vI a (ln, iv, lv) (4 * t + w)).1.2.2 (szK (takC (vI a (ln, iv, lv) (4 * t + w)).1.2.1 t (nI w))) (kqK (vI a (ln, iv, lv) (4 * t + w)).1.1)) from (by unfold vM; rw [if_neg (by omega), hKe, ec1, ec2]; rfl)]); (try dsimp only [rX]) <;> omega) (by have h9 : sA (vM a (ln, iv, lv) K).1 = sA (kpX (vI a (ln, iv, lv) (4 * t + w)).1.1 (takC (vI a (ln, iv, lv) (4 * t + w)).1.2.1 t (nI w)) (vI a (ln, iv, lv) (4 * t + w)).1.2.2 (szK (takC (vI a (ln, iv, lv) (4 * t + w)).1.2.1 t (nI w))) (kqK (vI a (ln, iv, lv) (4 * t + w)).1.1)).1 := (by rw [show vM a (ln, iv, lv) K = (kpX (vI a (ln, iv, lv) (4 * t + w)).1.1 (takC (vI a (ln, iv, lv) (4 * t + w)).1.2.1 t (nI w)) (vI a (ln, iv, lv) (4 * t + w)).1.2.2 (szK (takC (vI a (ln, iv, lv) (4 * t + w)).1.2.1 t (nI w))) (kqK (vI a (ln, iv, lv) (4 * t + w)).1.1)) from (by unfold vM; rw [if_neg (by omega), hKe, ec1, ec2]; rfl)]); (try dsimp only [rX]) <;> omega) ?_
          exact kr_zretX (M := M0) hx hb hr hlocks hK hP hD hS (by decide) (if_neg (by omega)).symm (by unfold vM; rw [if_neg (by omega), hKe, ec1, ec2]; rfl) hag dX3_visit_71
