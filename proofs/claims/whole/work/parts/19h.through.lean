/-! goThrough: J states are visited; visit j goes through Kf j choices -/
def iB (ln : Nat → Nat) (iv : Nat → Nat → Int32) : Nat → Nat → Int32 := m_aBegin (m_sClear iv ln) 1
def t0M (x : KM2) : KM2 := kpX x.1 (iB x.1 x.2.1) x.2.2 (szK (iB x.1 x.2.1)) (kqK x.1)
def t0R (x : KM2) : Int32 := kpR x.1 (iB x.1 x.2.1) x.2.2 (szK (iB x.1 x.2.1)) (kqK x.1)
noncomputable def tI (x : KM2) (Kf : Nat → Nat) : Nat → KM2
  | 0 => t0M x
  | j + 1 => vM j (tI x Kf j) (Kf j)
def rmv (r0 : Int32) (Kf : Nat → Nat) : Nat → Int32
  | 0 => r0
  | j + 1 => if Kf j = 16 then 1 else 0
def okTh (x : KM2) (Kf : Nat → Nat) (J : Nat) : Prop := x.1 40 < 2 ^ 31 ∧ okV x.1 (iB x.1 x.2.1) ∧ (∀ j, j ≤ J → (tI x Kf j).2.1 38 0 = nI (szK (tI x Kf j).2.1) ∧ szK (tI x Kf j).2.1 ≤ 3000) ∧ (∀ j, j < J → ¬ rmv (t0R x) Kf j = 0 ∧ j < szK (tI x Kf j).2.1 ∧ okVis j (tI x Kf j) (Kf j)) ∧ (rmv (t0R x) Kf J = 0 ∨ ¬ J < szK (tI x Kf J).2.1) ∧ J ≤ 3000
def tF (x : KM2) (r : Int32) : KM2 := if r = 0 then (x.1, up2 (up2 (m_hForget x.2.1) 36 2 (-2)) 36 1 1, x.2.2) else (x.1, up2 (up2 (up2 x.2.1 36 3 (r_sSize x.2.1)) 36 2 ((up2 x.2.1 36 3 (r_sSize x.2.1)) 36 10)) 36 1 1, x.2.2)
noncomputable def thM (x : KM2) (Kf : Nat → Nat) (J : Nat) : KM2 := tF (tI x Kf J) (rmv (t0R x) Kf J)
theorem thM_ln {x : KM2} {Kf : Nat → Nat} {J : Nat} : (thM x Kf J).1 = (tI x Kf J).1 := by
  unfold thM tF
  split <;> rfl
theorem tI_up {x : KM2} {Kf : Nat → Nat} {j : Nat} (h : okVis j (tI x Kf j) (Kf j)) : cA (tI x Kf j).1 ≤ cA (tI x Kf (j + 1)).1 ∧ sA (tI x Kf j).1 ≤ sA (tI x Kf (j + 1)).1 := vI_hi h (Kf j) 0 (Nat.zero_add _)
theorem tI_lo {x : KM2} {Kf : Nat → Nat} {J : Nat} (h : okTh x Kf J) : ∀ j, j ≤ J → cA x.1 ≤ cA (tI x Kf j).1 ∧ sA x.1 ≤ sA (tI x Kf j).1
  | 0, _ => kpX_c h.2.1.1
  | j + 1, hj => by
    have h1 := tI_lo h j (by omega)
    have h2 := tI_up (h.2.2.2.1 j (by omega)).2.2
    omega
theorem tI_hi {x : KM2} {Kf : Nat → Nat} {J : Nat} (h : okTh x Kf J) : ∀ d j, j + d = J → cA (tI x Kf j).1 ≤ cA (tI x Kf J).1 ∧ sA (tI x Kf j).1 ≤ sA (tI x Kf J).1
  | 0, j, hj => by rw [show j = J by omega]; exact ⟨Nat.le_refl _, Nat.le_refl _⟩
  | d + 1, j, hj => by
    have h1 := tI_hi h d (j + 1) (by omega)
    have h2 := tI_up (h.2.2.2.1 j (by omega)).2.2
    omega
set_option maxHeartbeats 4000000 in
set_option maxRecDepth 100000 in
theorem c_hThrough (l : Launch) (D : va_G) (gc : Nat → ClassId) (ad ln : Nat → Nat) (iv : Nat → Nat → Int32) (lv : Nat → Nat → Int64) (Kf : Nat → Nat) (J : Nat) (hok : okTh (ln, iv, lv) Kf J) : kMvX l yX3_goThrough wX3_goThrough ({ frames := 7, cells := cA (tI (ln, iv, lv) Kf J).1 - cA ln, slots := sA (tI (ln, iv, lv) Kf J).1 - sA ln, locals := 316 }) D vwCl (kT gc) 42 (kE gc) [.ref (ad 36)] (ad, ln, iv, lv) (thM (ln, iv, lv) Kf J) := by
  refine kvX_start (cc := cX3_goThrough) (maxL := 3) (by decide) rfl (Nat.le_of_ble_eq_true rfl) ?_
  intro p9 e9 s m9 below meth c9 A ls hx hb hr hts hown hlocks hml hA hK hP hD hS hl
  obtain ⟨M0, hM0⟩ : ∃ z : KM, z = (ad, ln, iv, lv) := ⟨_, rfl⟩
  rw [← hM0]
  have hag : ∀ c, c < 39 → ad c = M0.1 c := fun c _ => by rw [hM0]
  have hl : lv_has ls 3 [(0, .ref (ad 36))] := hl
  have hown : s.vm.findClass "MonitorWays$Search" = some m9.cls := hown
  have hin_X3 : ∀ w ∈ u_ws "MonitorWays$Search" TX3 11, w ∈ wX3_goThrough := fun w h => tcons (inX3 w h)
  have lk_f18 := hts _ (tcons tw_180)
  have lk_f26 := hts _ (tcons tw_179)
  have lk_f70 := hts _ (tcons tw_169)
  have lk_f30 := hts _ (tcons tw_167)
  have lk_f34 := hts _ (tcons tw_171)
  have lk_f47 := hts _ (tcons tw_182)
  have hns : ln 40 < 2 ^ 31 := hok.1
  have h00 := tI_lo hok 0 (Nat.zero_le _)
  have h01 := tI_hi hok J 0 (Nat.zero_add _)
  have hq1 : cA ln ≤ cA (kpX ln (iB ln iv) lv (szK (iB ln iv)) (kqK ln)).1 ∧ sA ln ≤ sA (kpX ln (iB ln iv) lv (szK (iB ln iv)) (kqK ln)).1 := h00
  have hq2 : cA (kpX ln (iB ln iv) lv (szK (iB ln iv)) (kqK ln)).1 ≤ cA (tI (ln, iv, lv) Kf J).1 ∧ sA (kpX ln (iB ln iv) lv (szK (iB ln iv)) (kqK ln)).1 ≤ sA (tI (ln, iv, lv) Kf J).1 := h01
  refine lv_aload_n hx hb dX3_goThrough_0 rfl (lv_at hl 0 rfl) ?_
  refine kr_get (C := "MonitorWays$Search") (T := TX3) (N := 11) hx hb hts hin_X3 hown hK hP 36 (by decide) (E_srch _ _ _ _) rfl 8 (by decide) lk_f18 (fun _ h9 => h9) rfl dX3_goThrough_1 ?_
  refine kr_callVv (As := []) (rest := []) ⟨hx, hb, hml, hown, hts⟩ (c_sClear l D gc ad ln iv lv hns) (cwV 0 hts (goodV (fun _ h => tcons h) tw_415 tw_416 tw_417 tw_7 tw_418) rfl rfl rfl (by decide +kernel) ⟨Nat.le_of_ble_eq_true rfl, Nat.le_of_ble_eq_true rfl⟩) (kr_recv hK hP 38 (by decide) (E_sts _ _ _ _) rfl) hK hP hD hS hA rfl hl.1 rfl (Nat.le_of_ble_eq_true rfl) dX3_goThrough_4 ⟨by (try dsimp only [rX]) <;> omega, by (try dsimp only [rX]) <;> omega⟩ (fun H locs hP hD hS => ?_)
  refine lv_aload_n hx hb dX3_goThrough_7 rfl (lv_at hl 0 rfl) ?_
  refine kr_get (C := "MonitorWays$Search") (T := TX3) (N := 11) hx hb hts hin_X3 hown hK hP 36 (by decide) (E_srch _ _ _ _) rfl 7 (by decide) lk_f26 (fun _ h9 => h9) rfl dX3_goThrough_8 ?_
  refine kr_callVv (As := []) (rest := []) ⟨hx, hb, hml, hown, hts⟩ (c_aBegin l D gc ad ln (m_sClear iv ln) lv 1 (by decide)) (cwV 0 hts (goodV (fun _ h => tcons h) tw_422 tw_111 tw_112 tw_3 tw_113) rfl rfl rfl (by decide +kernel) ⟨Nat.le_of_ble_eq_true rfl, Nat.le_of_ble_eq_true rfl⟩) (kr_recv hK hP (14 + 1) (by omega) (E_mach (by decide) _ _ _ _) rfl) hK hP hD hS hA rfl hl.1 rfl (Nat.le_of_ble_eq_true rfl) dX3_goThrough_11 ⟨by (try dsimp only [rX]) <;> omega, by (try dsimp only [rX]) <;> omega⟩ (fun H locs hP hD hS => ?_)
  have hP : va_P D vwCl (mW 42 (kE gc) (ad, ln, (iB ln iv), lv)) H := hP
  have hD : va_D A (mW 42 (kE gc) (ad, ln, (iB ln iv), lv)) := hD
  refine lv_aload_n hx hb dX3_goThrough_14 rfl (lv_at hl 0 rfl) ?_
  refine kr_get (C := "MonitorWays$Search") (T := TX3) (N := 11) hx hb hts hin_X3 hown hK hP 36 (by decide) (E_srch _ _ _ _) rfl 8 (by decide) lk_f18 (fun _ h9 => h9) rfl dX3_goThrough_15 ?_
  refine lv_aload_n hx hb dX3_goThrough_18 rfl (lv_at hl 0 rfl) ?_
  refine kr_get (C := "MonitorWays$Search") (T := TX3) (N := 11) hx hb hts hin_X3 hown hK hP 36 (by decide) (E_srch _ _ _ _) rfl 7 (by decide) lk_f26 (fun _ h9 => h9) rfl dX3_goThrough_19 ?_
  refine kr_callViX (As := [.ref (ad (14 + 1))]) (rest := []) ⟨hx, hb, hml, hown, hts⟩ (c_keepX l D gc ad ln (iB ln iv) lv (szK (iB ln iv)) (kqK ln) (eK ln) hok.2.1.1 hok.2.1.2.1 hok.2.1.2.2) (cwV 1 hts (goodV (fun _ h => tcons h) tw_423 tw_424 tw_425 tw_7 tw_426) rfl rfl rfl (by decide +kernel) ⟨Nat.le_of_ble_eq_true rfl, Nat.le_of_ble_eq_true rfl⟩) (kr_recv hK hP 38 (by decide) (E_sts _ _ _ _) rfl) hK hP hD hS hA rfl hl.1 rfl (Nat.le_of_ble_eq_true rfl) dX3_goThrough_22 ⟨by (try dsimp only [rX]) <;> omega, by (try dsimp only [rX]) <;> omega⟩ (fun ad1 H locs hag1 hP hD hS => ?_)
  have eq0 : ad 36 = ad1 36 := (hag1 36 (by decide)).symm
  rw [eq0] at hl
  have hag : ∀ c, c < 39 → ad1 c = M0.1 c := fun c hc => (hag1 c hc).trans (hag c hc)
  clear eq0
  obtain ⟨ad, had⟩ : ∃ z : Nat → Nat, z = ad1 := ⟨_, rfl⟩
  rw [← had] at hP hD hl hag
  have hP : va_P D vwCl (mW 42 (kE gc) (ad, (tI (ln, iv, lv) Kf 0).1, (tI (ln, iv, lv) Kf 0).2.1, (tI (ln, iv, lv) Kf 0).2.2)) H := hP
  have hD : va_D A (mW 42 (kE gc) (ad, (tI (ln, iv, lv) Kf 0).1, (tI (ln, iv, lv) Kf 0).2.1, (tI (ln, iv, lv) Kf 0).2.2)) := hD
  refine lv_istore_n (lv' := [(1, .int (kpR ln (iB ln iv) lv (szK (iB ln iv)) (kqK ln))), (0, .ref (ad 36))]) hx hb dX3_goThrough_25 rfl hl (by decide) rfl (fun ls hl => ?_)
  refine lv_iconst (v := 0) hx hb dX3_goThrough_26 (by decide) ?_
  refine lv_istore_n (lv' := [(2, .int 0), (1, .int (kpR ln (iB ln iv) lv (szK (iB ln iv)) (kqK ln))), (0, .ref (ad 36))]) hx hb dX3_goThrough_27 rfl hl (by decide) rfl (fun ls hl => ?_)
  refine kr_loopC (σ := Nat × ((Nat → Nat))) (fun z9 => match z9 with | (j, ad) => 3001 - j) (fun z9 => match z9 with | (j, ad) => cA (tI (ln, iv, lv) Kf j).1 - cA ln) (fun z9 => match z9 with | (j, ad) => sA (tI (ln, iv, lv) Kf j).1 - sA ln) (fun z9 H locs ls => match z9 with | (j, ad) => (j ≤ J) ∧ (∀ c, c < 39 → ad c = M0.1 c) ∧ va_P D vwCl (mW 42 (kE gc) (ad, (tI (ln, iv, lv) Kf j).1, (tI (ln, iv, lv) Kf j).2.1, (tI (ln, iv, lv) Kf j).2.2)) H ∧ va_D A (mW 42 (kE gc) (ad, (tI (ln, iv, lv) Kf j).1, (tI (ln, iv, lv) Kf j).2.1, (tI (ln, iv, lv) Kf j).2.2)) ∧ va_S A s.heap H locs ∧ lv_has ls 3 [(0, .ref (ad 36)), (1, .int (rmv (t0R (ln, iv, lv)) Kf j)), (2, .int (nI j))]) 28 (0, ad) ⟨Nat.zero_le _, hag, hP, hD, hS, lv_sub hl [2, 1, 0] rfl⟩ (by show _ = cA (kpX ln (iB ln iv) lv (szK (iB ln iv)) (kqK ln)).1 - cA ln; (try dsimp only [rX]) <;> omega) (by show _ = sA (kpX ln (iB ln iv) lv (szK (iB ln iv)) (kqK ln)).1 - sA ln; (try dsimp only [rX]) <;> omega) ?_
  intro z9 H locs ls hI ih
  obtain ⟨j, ad⟩ := z9
  obtain ⟨hj, hag, hP, hD, hS, hl⟩ := hI
  refine W_room (cells' := cA (tI (ln, iv, lv) Kf j).1 - cA ln) (slots' := sA (tI (ln, iv, lv) Kf j).1 - sA ln) rfl rfl ?_
  refine lv_iload_n hx hb dX3_goThrough_28 rfl (lv_at hl 1 rfl) ?_
  refine lv_if_eq (tgt := 62) hx hb dX3_goThrough_29 (by decide) (fun c_1 => ?_) (fun c_1 => ?_)
  · have hs4 := (hok.2.2.1 j hj).2
    have hjJ : j = J := by rcases Nat.lt_or_ge j J with h | h; exact absurd c_1 (hok.2.2.2.1 j h).1; omega
    rw [hjJ] at hP hD hl
    refine W_room (cells' := cA (tI (ln, iv, lv) Kf J).1 - cA ln) (slots' := sA (tI (ln, iv, lv) Kf J).1 - sA ln) (by (try dsimp only [rX]) <;> (try rw [hjJ]) <;> (try omega)) (by (try dsimp only [rX]) <;> (try rw [hjJ]) <;> (try omega)) ?_
    have hloE := tI_lo hok J (Nat.le_refl J)
    have hlE : cA ln ≤ cA (tI (ln, iv, lv) Kf J).1 ∧ sA ln ≤ sA (tI (ln, iv, lv) Kf J).1 := hloE
    refine lv_iload_n hx hb dX3_goThrough_62 rfl (lv_at hl 1 rfl) ?_
    refine lv_if_eq (tgt := 88) hx hb dX3_goThrough_63 (by decide) (fun c_2 => ?_) (fun c_2 => ?_)
    · refine lv_aload_n hx hb dX3_goThrough_88 rfl (lv_at hl 0 rfl) ?_
      refine kr_callVv (As := []) (rest := []) ⟨hx, hb, hml, hown, hts⟩ (c_hForget l D gc ad (tI (ln, iv, lv) Kf J).1 (tI (ln, iv, lv) Kf J).2.1 (tI (ln, iv, lv) Kf J).2.2) (cwV 0 hts (goodV (fun _ h => tcons h) tw_529 tw_237 tw_238 tw_6 tw_239) rfl rfl rfl (by decide +kernel) ⟨Nat.le_of_ble_eq_true rfl, Nat.le_of_ble_eq_true rfl⟩) (kr_recv hK hP 36 (by decide) (E_srch _ _ _ _) rfl) hK hP hD hS hA rfl hl.1 rfl (Nat.le_of_ble_eq_true rfl) dX3_goThrough_89 ⟨by (try dsimp only [rX]) <;> omega, by (try dsimp only [rX]) <;> omega⟩ (fun H locs hP hD hS => ?_)
      refine lv_aload_n hx hb dX3_goThrough_92 rfl (lv_at hl 0 rfl) ?_
      refine lv_bipush (v := (-2)) hx hb dX3_goThrough_93 (by decide) ?_
      refine kr_put (C := "MonitorWays$Search") (T := TX3) (N := 11) hx hb hts hin_X3 tyX3 ok_tyX3 ok_nX3 hown hK hP hD hS 36 (by decide) (fun _ => E_srch _ _ _ _) rfl 2 (by decide) lk_f70 (fun _ h9 => h9) rfl rfl rfl rfl (fun _ => Nat.le_of_ble_eq_true rfl) (fun _ => rfl) dX3_goThrough_95 (fun H locs hP hD hS => ?_)
      refine lv_aload_n hx hb dX3_goThrough_98 rfl (lv_at hl 0 rfl) ?_
      refine lv_iconst (v := 1) hx hb dX3_goThrough_99 (by decide) ?_
      refine kr_put (C := "MonitorWays$Search") (T := TX3) (N := 11) hx hb hts hin_X3 tyX3 ok_tyX3 ok_nX3 hown hK hP hD hS 36 (by decide) (fun _ => E_srch _ _ _ _) rfl 1 (by decide) lk_f30 (fun _ h9 => h9) rfl rfl (by decide) (by decide) (fun _ => Nat.le_of_ble_eq_true rfl) (fun _ => rfl) dX3_goThrough_100 (fun H locs hP hD hS => ?_)
      refine W_room (cells' := cA (tI (ln, iv, lv) Kf J).1 - cA ln) (slots' := sA (tI (ln, iv, lv) Kf J).1 - sA ln) rfl rfl ?_
      exact kr_vretX (M := M0) hx hb hr hlocks hK hP hD hS (by unfold thM tF; rw [if_pos c_2]) hag dX3_goThrough_103
    · refine lv_aload_n hx hb dX3_goThrough_66 rfl (lv_at hl 0 rfl) ?_
      refine lv_aload_n hx hb dX3_goThrough_67 rfl (lv_at hl 0 rfl) ?_
      refine kr_get (C := "MonitorWays$Search") (T := TX3) (N := 11) hx hb hts hin_X3 hown hK hP 36 (by decide) (E_srch _ _ _ _) rfl 8 (by decide) lk_f18 (fun _ h9 => h9) rfl dX3_goThrough_68 ?_
      refine kr_callVi (As := []) (rest := [.ref (ad 36)]) ⟨hx, hb, hml, hown, hts⟩ (c_sSize l D gc ad (tI (ln, iv, lv) Kf J).1 (tI (ln, iv, lv) Kf J).2.1 (tI (ln, iv, lv) Kf J).2.2) (cwV 0 hts (goodV (fun _ h => tcons h) tw_472 tw_473 tw_474 tw_7 tw_475) rfl rfl rfl (by decide +kernel) ⟨Nat.le_of_ble_eq_true rfl, Nat.le_of_ble_eq_true rfl⟩) (kr_recv hK hP 38 (by decide) (E_sts _ _ _ _) rfl) hK hP hD hS hA rfl hl.1 rfl (Nat.le_of_ble_eq_true rfl) dX3_goThrough_71 ⟨by (try dsimp only [rX]) <;> omega, by (try dsimp only [rX]) <;> omega⟩ (fun H locs hP hD hS => ?_)
      refine kr_put (C := "MonitorWays$Search") (T := TX3) (N := 11) hx hb hts hin_X3 tyX3 ok_tyX3 ok_nX3 hown hK hP hD hS 36 (by decide) (fun _ => E_srch _ _ _ _) rfl 3 (by decide) lk_f34 (fun _ h9 => h9) rfl rfl rfl rfl (fun _ => Nat.le_of_ble_eq_true rfl) (fun _ => rfl) dX3_goThrough_74 (fun H locs hP hD hS => ?_)
      refine lv_aload_n hx hb dX3_goThrough_77 rfl (lv_at hl 0 rfl) ?_
      refine lv_aload_n hx hb dX3_goThrough_78 rfl (lv_at hl 0 rfl) ?_
      refine kr_get (C := "MonitorWays$Search") (T := TX3) (N := 11) hx hb hts hin_X3 hown hK hP 36 (by decide) (E_srch _ _ _ _) rfl 10 (by decide) lk_f47 (fun _ h9 => h9) rfl dX3_goThrough_79 ?_
      refine kr_put (C := "MonitorWays$Search") (T := TX3) (N := 11) hx hb hts hin_X3 tyX3 ok_tyX3 ok_nX3 hown hK hP hD hS 36 (by decide) (fun _ => E_srch _ _ _ _) rfl 2 (by decide) lk_f70 (fun _ h9 => h9) rfl rfl rfl rfl (fun _ => Nat.le_of_ble_eq_true rfl) (fun _ => rfl) dX3_goThrough_82 (fun H locs hP hD hS => ?_)
      refine lv_goto (tgt := 98) hx hb dX3_goThrough_85 (by decide) ?_
      refine lv_aload_n hx hb dX3_goThrough_98 rfl (lv_at hl 0 rfl) ?_
      refine lv_iconst (v := 1) hx hb dX3_goThrough_99 (by decide) ?_
      refine kr_put (C := "MonitorWays$Search") (T := TX3) (N := 11) hx hb hts hin_X3 tyX3 ok_tyX3 ok_nX3 hown hK hP hD hS 36 (by decide) (fun _ => E_srch _ _ _ _) rfl 1 (by decide) lk_f30 (fun _ h9 => h9) rfl rfl (by decide) (by decide) (fun _ => Nat.le_of_ble_eq_true rfl) (fun _ => rfl) dX3_goThrough_100 (fun H locs hP hD hS => ?_)
      refine W_room (cells' := cA (tI (ln, iv, lv) Kf J).1 - cA ln) (slots' := sA (tI (ln, iv, lv) Kf J).1 - sA ln) rfl rfl ?_
      exact kr_vretX (M := M0) hx hb hr hlocks hK hP hD hS (by unfold thM tF; rw [if_neg c_2]) hag dX3_goThrough_103
  · have hs3 := (hok.2.2.1 j hj).2
    have hlo := tI_lo hok j hj
    have hhi := tI_hi hok (J - j) j (by omega)
    have hlo1 : cA ln ≤ cA (tI (ln, iv, lv) Kf j).1 := hlo.1
    have hlo2 : sA ln ≤ sA (tI (ln, iv, lv) Kf j).1 := hlo.2
    refine lv_iload_n hx hb dX3_goThrough_32 rfl (lv_at hl 2 rfl) ?_
    refine lv_aload_n hx hb dX3_goThrough_33 rfl (lv_at hl 0 rfl) ?_
    refine kr_get (C := "MonitorWays$Search") (T := TX3) (N := 11) hx hb hts hin_X3 hown hK hP 36 (by decide) (E_srch _ _ _ _) rfl 8 (by decide) lk_f18 (fun _ h9 => h9) rfl dX3_goThrough_34 ?_
    refine kr_callVi (As := []) (rest := [.int (nI j)]) ⟨hx, hb, hml, hown, hts⟩ (c_sSize l D gc ad (tI (ln, iv, lv) Kf j).1 (tI (ln, iv, lv) Kf j).2.1 (tI (ln, iv, lv) Kf j).2.2) (cwV 0 hts (goodV (fun _ h => tcons h) tw_472 tw_473 tw_474 tw_7 tw_475) rfl rfl rfl (by decide +kernel) ⟨Nat.le_of_ble_eq_true rfl, Nat.le_of_ble_eq_true rfl⟩) (kr_recv hK hP 38 (by decide) (E_sts _ _ _ _) rfl) hK hP hD hS hA rfl hl.1 rfl (Nat.le_of_ble_eq_true rfl) dX3_goThrough_37 ⟨by (try dsimp only [rX]) <;> omega, by (try dsimp only [rX]) <;> omega⟩ (fun H locs hP hD hS => ?_)
    refine kr_topi (y := nI (szK (tI (ln, iv, lv) Kf j).2.1)) (hok.2.2.1 j hj).1 ?_
    refine lv_icmp_ge (tgt := 62) hx hb dX3_goThrough_40 (by decide) (fun c_3 => ?_) (fun c_3 => ?_)
    · have hs4 := (hok.2.2.1 j hj).2
      have hjJ : j = J := by rcases Nat.lt_or_ge j J with h | h; exact absurd (hok.2.2.2.1 j h).2.1 (by have := (nI_leI (by omega) (by have := hok.2.2.2.2.2; omega)).mp c_3; omega); omega
      rw [hjJ] at hP hD hl
      refine W_room (cells' := cA (tI (ln, iv, lv) Kf J).1 - cA ln) (slots' := sA (tI (ln, iv, lv) Kf J).1 - sA ln) (by (try dsimp only [rX]) <;> (try rw [hjJ]) <;> (try omega)) (by (try dsimp only [rX]) <;> (try rw [hjJ]) <;> (try omega)) ?_
      have hloE := tI_lo hok J (Nat.le_refl J)
      have hlE : cA ln ≤ cA (tI (ln, iv, lv) Kf J).1 ∧ sA ln ≤ sA (tI (ln, iv, lv) Kf J).1 := hloE
      refine lv_iload_n hx hb dX3_goThrough_62 rfl (lv_at hl 1 rfl) ?_
      refine lv_if_eq (tgt := 88) hx hb dX3_goThrough_63 (by decide) (fun c_4 => ?_) (fun c_4 => ?_)
      · refine lv_aload_n hx hb dX3_goThrough_88 rfl (lv_at hl 0 rfl) ?_
        refine kr_callVv (As := []) (rest := []) ⟨hx, hb, hml, hown, hts⟩ (c_hForget l D gc ad (tI (ln, iv, lv) Kf J).1 (tI (ln, iv, lv) Kf J).2.1 (tI (ln, iv, lv) Kf J).2.2) (cwV 0 hts (goodV (fun _ h => tcons h) tw_529 tw_237 tw_238 tw_6 tw_239) rfl rfl rfl (by decide +kernel) ⟨Nat.le_of_ble_eq_true rfl, Nat.le_of_ble_eq_true rfl⟩) (kr_recv hK hP 36 (by decide) (E_srch _ _ _ _) rfl) hK hP hD hS hA rfl hl.1 rfl (Nat.le_of_ble_eq_true rfl) dX3_goThrough_89 ⟨by (try dsimp only [rX]) <;> omega, by (try dsimp only [rX]) <;> omega⟩ (fun H locs hP hD hS => ?_)
        refine lv_aload_n hx hb dX3_goThrough_92 rfl (lv_at hl 0 rfl) ?_
        refine lv_bipush (v := (-2)) hx hb dX3_goThrough_93 (by decide) ?_
        refine kr_put (C := "MonitorWays$Search") (T := TX3) (N := 11) hx hb hts hin_X3 tyX3 ok_tyX3 ok_nX3 hown hK hP hD hS 36 (by decide) (fun _ => E_srch _ _ _ _) rfl 2 (by decide) lk_f70 (fun _ h9 => h9) rfl rfl rfl rfl (fun _ => Nat.le_of_ble_eq_true rfl) (fun _ => rfl) dX3_goThrough_95 (fun H locs hP hD hS => ?_)
        refine lv_aload_n hx hb dX3_goThrough_98 rfl (lv_at hl 0 rfl) ?_
        refine lv_iconst (v := 1) hx hb dX3_goThrough_99 (by decide) ?_
        refine kr_put (C := "MonitorWays$Search") (T := TX3) (N := 11) hx hb hts hin_X3 tyX3 ok_tyX3 ok_nX3 hown hK hP hD hS 36 (by decide) (fun _ => E_srch _ _ _ _) rfl 1 (by decide) lk_f30 (fun _ h9 => h9) rfl rfl (by decide) (by decide) (fun _ => Nat.le_of_ble_eq_true rfl) (fun _ => rfl) dX3_goThrough_100 (fun H locs hP hD hS => ?_)
        refine W_room (cells' := cA (tI (ln, iv, lv) Kf J).1 - cA ln) (slots' := sA (tI (ln, iv, lv) Kf J).1 - sA ln) rfl rfl ?_
        exact kr_vretX (M := M0) hx hb hr hlocks hK hP hD hS (by unfold thM tF; rw [if_pos c_4]) hag dX3_goThrough_103
      · refine lv_aload_n hx hb dX3_goThrough_66 rfl (lv_at hl 0 rfl) ?_
        refine lv_aload_n hx hb dX3_goThrough_67 rfl (lv_at hl 0 rfl) ?_
        refine kr_get (C := "MonitorWays$Search") (T := TX3) (N := 11) hx hb hts hin_X3 hown hK hP 36 (by decide) (E_srch _ _ _ _) rfl 8 (by decide) lk_f18 (fun _ h9 => h9) rfl dX3_goThrough_68 ?_
        refine kr_callVi (As := []) (rest := [.ref (ad 36)]) ⟨hx, hb, hml, hown, hts⟩ (c_sSize l D gc ad (tI (ln, iv, lv) Kf J).1 (tI (ln, iv, lv) Kf J).2.1 (tI (ln, iv, lv) Kf J).2.2) (cwV 0 hts (goodV (fun _ h => tcons h) tw_472 tw_473 tw_474 tw_7 tw_475) rfl rfl rfl (by decide +kernel) ⟨Nat.le_of_ble_eq_true rfl, Nat.le_of_ble_eq_true rfl⟩) (kr_recv hK hP 38 (by decide) (E_sts _ _ _ _) rfl) hK hP hD hS hA rfl hl.1 rfl (Nat.le_of_ble_eq_true rfl) dX3_goThrough_71 ⟨by (try dsimp only [rX]) <;> omega, by (try dsimp only [rX]) <;> omega⟩ (fun H locs hP hD hS => ?_)
        refine kr_put (C := "MonitorWays$Search") (T := TX3) (N := 11) hx hb hts hin_X3 tyX3 ok_tyX3 ok_nX3 hown hK hP hD hS 36 (by decide) (fun _ => E_srch _ _ _ _) rfl 3 (by decide) lk_f34 (fun _ h9 => h9) rfl rfl rfl rfl (fun _ => Nat.le_of_ble_eq_true rfl) (fun _ => rfl) dX3_goThrough_74 (fun H locs hP hD hS => ?_)
        refine lv_aload_n hx hb dX3_goThrough_77 rfl (lv_at hl 0 rfl) ?_
        refine lv_aload_n hx hb dX3_goThrough_78 rfl (lv_at hl 0 rfl) ?_
        refine kr_get (C := "MonitorWays$Search") (T := TX3) (N := 11) hx hb hts hin_X3 hown hK hP 36 (by decide) (E_srch _ _ _ _) rfl 10 (by decide) lk_f47 (fun _ h9 => h9) rfl dX3_goThrough_79 ?_
        refine kr_put (C := "MonitorWays$Search") (T := TX3) (N := 11) hx hb hts hin_X3 tyX3 ok_tyX3 ok_nX3 hown hK hP hD hS 36 (by decide) (fun _ => E_srch _ _ _ _) rfl 2 (by decide) lk_f70 (fun _ h9 => h9) rfl rfl rfl rfl (fun _ => Nat.le_of_ble_eq_true rfl) (fun _ => rfl) dX3_goThrough_82 (fun H locs hP hD hS => ?_)
        refine lv_goto (tgt := 98) hx hb dX3_goThrough_85 (by decide) ?_
        refine lv_aload_n hx hb dX3_goThrough_98 rfl (lv_at hl 0 rfl) ?_
        refine lv_iconst (v := 1) hx hb dX3_goThrough_99 (by decide) ?_
        refine kr_put (C := "MonitorWays$Search") (T := TX3) (N := 11) hx hb hts hin_X3 tyX3 ok_tyX3 ok_nX3 hown hK hP hD hS 36 (by decide) (fun _ => E_srch _ _ _ _) rfl 1 (by decide) lk_f30 (fun _ h9 => h9) rfl rfl (by decide) (by decide) (fun _ => Nat.le_of_ble_eq_true rfl) (fun _ => rfl) dX3_goThrough_100 (fun H locs hP hD hS => ?_)
        refine W_room (cells' := cA (tI (ln, iv, lv) Kf J).1 - cA ln) (slots' := sA (tI (ln, iv, lv) Kf J).1 - sA ln) rfl rfl ?_
        exact kr_vretX (M := M0) hx hb hr hlocks hK hP hD hS (by unfold thM tF; rw [if_neg c_4]) hag dX3_goThrough_103
    · refine lv_iload_n hx hb dX3_goThrough_43 rfl (lv_at hl 2 rfl) ?_
      refine lv_sipush (v := 3000) hx hb dX3_goThrough_44 (by decide) ?_
      refine lv_icmp_ge (tgt := 62) hx hb dX3_goThrough_47 (by decide) (fun c_5 => ?_) (fun c_5 => ?_)
      · have hs4 := (hok.2.2.1 j hj).2
        have hjJ : j = J := by rcases Nat.lt_or_ge j J with h | h; exact absurd (hok.2.2.2.1 j h).2.1 (by have := (nI_leI (a := 3000) (by decide) (by have := hok.2.2.2.2.2; omega)).mp c_5; omega); omega
        rw [hjJ] at hP hD hl
        refine W_room (cells' := cA (tI (ln, iv, lv) Kf J).1 - cA ln) (slots' := sA (tI (ln, iv, lv) Kf J).1 - sA ln) (by (try dsimp only [rX]) <;> (try rw [hjJ]) <;> (try omega)) (by (try dsimp only [rX]) <;> (try rw [hjJ]) <;> (try omega)) ?_
        have hloE := tI_lo hok J (Nat.le_refl J)
        have hlE : cA ln ≤ cA (tI (ln, iv, lv) Kf J).1 ∧ sA ln ≤ sA (tI (ln, iv, lv) Kf J).1 := hloE
        refine lv_iload_n hx hb dX3_goThrough_62 rfl (lv_at hl 1 rfl) ?_
        refine lv_if_eq (tgt := 88) hx hb dX3_goThrough_63 (by decide) (fun c_6 => ?_) (fun c_6 => ?_)
        · refine lv_aload_n hx hb dX3_goThrough_88 rfl (lv_at hl 0 rfl) ?_
          refine kr_callVv (As := []) (rest := []) ⟨hx, hb, hml, hown, hts⟩ (c_hForget l D gc ad (tI (ln, iv, lv) Kf J).1 (tI (ln, iv, lv) Kf J).2.1 (tI (ln, iv, lv) Kf J).2.2) (cwV 0 hts (goodV (fun _ h => tcons h) tw_529 tw_237 tw_238 tw_6 tw_239) rfl rfl rfl (by decide +kernel) ⟨Nat.le_of_ble_eq_true rfl, Nat.le_of_ble_eq_true rfl⟩) (kr_recv hK hP 36 (by decide) (E_srch _ _ _ _) rfl) hK hP hD hS hA rfl hl.1 rfl (Nat.le_of_ble_eq_true rfl) dX3_goThrough_89 ⟨by (try dsimp only [rX]) <;> omega, by (try dsimp only [rX]) <;> omega⟩ (fun H locs hP hD hS => ?_)
          refine lv_aload_n hx hb dX3_goThrough_92 rfl (lv_at hl 0 rfl) ?_
          refine lv_bipush (v := (-2)) hx hb dX3_goThrough_93 (by decide) ?_
          refine kr_put (C := "MonitorWays$Search") (T := TX3) (N := 11) hx hb hts hin_X3 tyX3 ok_tyX3 ok_nX3 hown hK hP hD hS 36 (by decide) (fun _ => E_srch _ _ _ _) rfl 2 (by decide) lk_f70 (fun _ h9 => h9) rfl rfl rfl rfl (fun _ => Nat.le_of_ble_eq_true rfl) (fun _ => rfl) dX3_goThrough_95 (fun H locs hP hD hS => ?_)
          refine lv_aload_n hx hb dX3_goThrough_98 rfl (lv_at hl 0 rfl) ?_
          refine lv_iconst (v := 1) hx hb dX3_goThrough_99 (by decide) ?_
          refine kr_put (C := "MonitorWays$Search") (T := TX3) (N := 11) hx hb hts hin_X3 tyX3 ok_tyX3 ok_nX3 hown hK hP hD hS 36 (by decide) (fun _ => E_srch _ _ _ _) rfl 1 (by decide) lk_f30 (fun _ h9 => h9) rfl rfl (by decide) (by decide) (fun _ => Nat.le_of_ble_eq_true rfl) (fun _ => rfl) dX3_goThrough_100 (fun H locs hP hD hS => ?_)
          refine W_room (cells' := cA (tI (ln, iv, lv) Kf J).1 - cA ln) (slots' := sA (tI (ln, iv, lv) Kf J).1 - sA ln) rfl rfl ?_
          exact kr_vretX (M := M0) hx hb hr hlocks hK hP hD hS (by unfold thM tF; rw [if_pos c_6]) hag dX3_goThrough_103
        · refine lv_aload_n hx hb dX3_goThrough_66 rfl (lv_at hl 0 rfl) ?_
          refine lv_aload_n hx hb dX3_goThrough_67 rfl (lv_at hl 0 rfl) ?_
          refine kr_get (C := "MonitorWays$Search") (T := TX3) (N := 11) hx hb hts hin_X3 hown hK hP 36 (by decide) (E_srch _ _ _ _) rfl 8 (by decide) lk_f18 (fun _ h9 => h9) rfl dX3_goThrough_68 ?_
          refine kr_callVi (As := []) (rest := [.ref (ad 36)]) ⟨hx, hb, hml, hown, hts⟩ (c_sSize l D gc ad (tI (ln, iv, lv) Kf J).1 (tI (ln, iv, lv) Kf J).2.1 (tI (ln, iv, lv) Kf J).2.2) (cwV 0 hts (goodV (fun _ h => tcons h) tw_472 tw_473 tw_474 tw_7 tw_475) rfl rfl rfl (by decide +kernel) ⟨Nat.le_of_ble_eq_true rfl, Nat.le_of_ble_eq_true rfl⟩) (kr_recv hK hP 38 (by decide) (E_sts _ _ _ _) rfl) hK hP hD hS hA rfl hl.1 rfl (Nat.le_of_ble_eq_true rfl) dX3_goThrough_71 ⟨by (try dsimp only [rX]) <;> omega, by (try dsimp only [rX]) <;> omega⟩ (fun H locs hP hD hS => ?_)
          refine kr_put (C := "MonitorWays$Search") (T := TX3) (N := 11) hx hb hts hin_X3 tyX3 ok_tyX3 ok_nX3 hown hK hP hD hS 36 (by decide) (fun _ => E_srch _ _ _ _) rfl 3 (by decide) lk_f34 (fun _ h9 => h9) rfl rfl rfl rfl (fun _ => Nat.le_of_ble_eq_true rfl) (fun _ => rfl) dX3_goThrough_74 (fun H locs hP hD hS => ?_)
          refine lv_aload_n hx hb dX3_goThrough_77 rfl (lv_at hl 0 rfl) ?_
          refine lv_aload_n hx hb dX3_goThrough_78 rfl (lv_at hl 0 rfl) ?_
          refine kr_get (C := "MonitorWays$Search") (T := TX3) (N := 11) hx hb hts hin_X3 hown hK hP 36 (by decide) (E_srch _ _ _ _) rfl 10 (by decide) lk_f47 (fun _ h9 => h9) rfl dX3_goThrough_79 ?_
          refine kr_put (C := "MonitorWays$Search") (T := TX3) (N := 11) hx hb hts hin_X3 tyX3 ok_tyX3 ok_nX3 hown hK hP hD hS 36 (by decide) (fun _ => E_srch _ _ _ _) rfl 2 (by decide) lk_f70 (fun _ h9 => h9) rfl rfl rfl rfl (fun _ => Nat.le_of_ble_eq_true rfl) (fun _ => rfl) dX3_goThrough_82 (fun H locs hP hD hS => ?_)
          refine lv_goto (tgt := 98) hx hb dX3_goThrough_85 (by decide) ?_
          refine lv_aload_n hx hb dX3_goThrough_98 rfl (lv_at hl 0 rfl) ?_
          refine lv_iconst (v := 1) hx hb dX3_goThrough_99 (by decide) ?_
          refine kr_put (C := "MonitorWays$Search") (T := TX3) (N := 11) hx hb hts hin_X3 tyX3 ok_tyX3 ok_nX3 hown hK hP hD hS 36 (by decide) (fun _ => E_srch _ _ _ _) rfl 1 (by decide) lk_f30 (fun _ h9 => h9) rfl rfl (by decide) (by decide) (fun _ => Nat.le_of_ble_eq_true rfl) (fun _ => rfl) dX3_goThrough_100 (fun H locs hP hD hS => ?_)
          refine W_room (cells' := cA (tI (ln, iv, lv) Kf J).1 - cA ln) (slots' := sA (tI (ln, iv, lv) Kf J).1 - sA ln) rfl rfl ?_
          exact kr_vretX (M := M0) hx hb hr hlocks hK hP hD hS (by unfold thM tF; rw [if_neg c_6]) hag dX3_goThrough_103
      · have hjs : j < szK (tI (ln, iv, lv) Kf j).2.1 := lt_of_nle (by omega) (by have := hok.2.2.2.2.2; omega) c_3
        have hjJ : j < J := by rcases Nat.lt_or_ge j J with h | h; exact h; exact absurd (hok.2.2.2.2.1) (by rw [show J = j by omega]; exact fun q => q.elim c_1 (fun q => q hjs))
        have hV := (hok.2.2.2.1 j hjJ).2.2
        have hup := tI_up hV
        have hhi1 := tI_hi hok (J - (j + 1)) (j + 1) (by omega)
        have hv1 : cA (tI (ln, iv, lv) Kf j).1 ≤ cA (vM j ((tI (ln, iv, lv) Kf j).1, (tI (ln, iv, lv) Kf j).2.1, (tI (ln, iv, lv) Kf j).2.2) (Kf j)).1 ∧ sA (tI (ln, iv, lv) Kf j).1 ≤ sA (vM j ((tI (ln, iv, lv) Kf j).1, (tI (ln, iv, lv) Kf j).2.1, (tI (ln, iv, lv) Kf j).2.2) (Kf j)).1 := hup
        have hv2 : cA (vM j ((tI (ln, iv, lv) Kf j).1, (tI (ln, iv, lv) Kf j).2.1, (tI (ln, iv, lv) Kf j).2.2) (Kf j)).1 ≤ cA (tI (ln, iv, lv) Kf J).1 ∧ sA (vM j ((tI (ln, iv, lv) Kf j).1, (tI (ln, iv, lv) Kf j).2.1, (tI (ln, iv, lv) Kf j).2.2) (Kf j)).1 ≤ sA (tI (ln, iv, lv) Kf J).1 := hhi1
        refine lv_aload_n hx hb dX3_goThrough_50 rfl (lv_at hl 0 rfl) ?_
        refine lv_iload_n hx hb dX3_goThrough_51 rfl (lv_at hl 2 rfl) ?_
        refine kr_callViX (As := [.int (nI j)]) (rest := []) ⟨hx, hb, hml, hown, hts⟩ (c_hVisit l D gc ad (tI (ln, iv, lv) Kf j).1 (tI (ln, iv, lv) Kf j).2.1 (tI (ln, iv, lv) Kf j).2.2 j (Kf j) hV) (cwV 1 hts (goodV (fun _ h => tcons h) tw_476 tw_478 ts_20 tw_6 tw_479) rfl rfl rfl (by decide +kernel) ⟨Nat.le_of_ble_eq_true rfl, Nat.le_of_ble_eq_true rfl⟩) (kr_recv hK hP 36 (by decide) (E_srch _ _ _ _) rfl) hK hP hD hS hA rfl hl.1 rfl (Nat.le_of_ble_eq_true rfl) dX3_goThrough_52 ⟨by (try dsimp only [rX]) <;> omega, by (try dsimp only [rX]) <;> omega⟩ (fun ad1 H locs hag1 hP hD hS => ?_)
        have eq0 : ad 36 = ad1 36 := (hag1 36 (by decide)).symm
        rw [eq0] at hl
        have hag : ∀ c, c < 39 → ad1 c = M0.1 c := fun c hc => (hag1 c hc).trans (hag c hc)
        clear eq0
        obtain ⟨ad, had⟩ : ∃ z : Nat → Nat, z = ad1 := ⟨_, rfl⟩
        rw [← had] at hP hD hl hag
        have hP : va_P D vwCl (mW 42 (kE gc) (ad, (tI (ln, iv, lv) Kf (j + 1)).1, (tI (ln, iv, lv) Kf (j + 1)).2.1, (tI (ln, iv, lv) Kf (j + 1)).2.2)) H := hP
        have hD : va_D A (mW 42 (kE gc) (ad, (tI (ln, iv, lv) Kf (j + 1)).1, (tI (ln, iv, lv) Kf (j + 1)).2.1, (tI (ln, iv, lv) Kf (j + 1)).2.2)) := hD
        refine kr_topi (y := rmv (t0R (ln, iv, lv)) Kf (j + 1)) rfl ?_
        refine lv_istore_n (lv' := [(1, .int (rmv (t0R (ln, iv, lv)) Kf (j + 1))), (0, .ref (ad 36)), (2, .int (nI j))]) hx hb dX3_goThrough_55 rfl hl (by decide) rfl (fun ls hl => ?_)
        refine lv_iinc (v := nI (j + 1)) (lv' := [(2, .int (nI (j + 1))), (1, .int (rmv (t0R (ln, iv, lv)) Kf (j + 1))), (0, .ref (ad 36))]) hx hb dX3_goThrough_56 hl (k := 2) rfl (nI_1 j) (by decide) rfl (fun ls hl => ?_)
        refine lv_goto (tgt := 28) hx hb dX3_goThrough_59 (by decide) ?_
        refine W_room (cells' := cA (tI (ln, iv, lv) Kf (j + 1)).1 - cA ln) (slots' := sA (tI (ln, iv, lv) Kf (j + 1)).1 - sA ln) (by show _ = cA (vM j ((tI (ln, iv, lv) Kf j).1, (tI (ln, iv, lv) Kf j).2.1, (tI (ln, iv, lv) Kf j).2.2) (Kf j)).1 - cA ln; (try dsimp only [rX]) <;> omega) (by show _ = sA (vM j ((tI (ln, iv, lv) Kf j).1, (tI (ln, iv, lv) Kf j).2.1, (tI (ln, iv, lv) Kf j).2.2) (Kf j)).1 - sA ln; (try dsimp only [rX]) <;> omega) ?_
        exact ih (j + 1, ad) H locs ls ⟨by omega, hag, hP, hD, hS, lv_sub hl [2, 1, 0] rfl⟩ (by show 3001 - (j + 1) < 3001 - j; omega)
