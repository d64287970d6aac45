set_option maxHeartbeats 4000000 in
set_option maxRecDepth 100000 in
theorem c_xExplore (l : Launch) (D : va_G) (gc : Nat → ClassId) (ad ln : Nat → Nat) (iv : Nat → Nat → Int32) (lv : Nat → Nat → Int64) (Kf : Nat → Nat) (J : Nat) (hok : okTh (ln, iv, lv) Kf J) (hd : iv 36 1 = 0) : kMiX l yX6_explore wX6_explore ({ frames := 8, cells := cA (tI (ln, iv, lv) Kf J).1 - cA ln, slots := sA (tI (ln, iv, lv) Kf J).1 - sA ln, locals := 342 }) D vwCl (kT gc) 42 (kE gc) [.ref (ad 0)] (ad, ln, iv, lv) (thM (ln, iv, lv) Kf J) ((thM (ln, iv, lv) Kf J).2.1 36 2) := by
  refine kiX_start (cc := cX6_explore) (maxL := 1) (ret := (some .int)) (by decide) rfl (Nat.le_of_ble_eq_true rfl) ?_
  intro p9 e9 s m9 below meth c9 A ls hx hb hr hts hown hlocks hml hA hK hP hD hS hl
  obtain ⟨M0, hM0⟩ : ∃ z : KM, z = (ad, ln, iv, lv) := ⟨_, rfl⟩
  rw [← hM0]
  have hag : ∀ c, c < 39 → ad c = M0.1 c := fun c _ => by rw [hM0]
  have hl : lv_has ls 1 [(0, .ref (ad 0))] := hl
  have hown : s.vm.findClass "MonitorWays" = some m9.cls := hown
  have hin_X6 : ∀ w ∈ u_ws "MonitorWays" TX6 4, w ∈ wX6_explore := fun w h => tcons (inX6 w h)
  have hin_X3 : ∀ w ∈ u_ws "MonitorWays$Search" TX3 11, w ∈ wX6_explore := fun w h => tcons (inX3 w h)
  have lk_f30 := hts _ (tcons tw_208)
  have lk_f104 := hts _ (tcons tw_168)
  have lk_f111 := hts _ (tcons tw_170)
  refine lv_aload_n hx hb dX6_explore_0 rfl (lv_at hl 0 rfl) ?_
  refine kr_get (C := "MonitorWays") (T := TX6) (N := 4) hx hb hts hin_X6 hown hK hP 0 (by decide) (E_main _ _ _ _) rfl 2 (by decide) lk_f30 (fun _ h9 => h9) rfl dX6_explore_1 ?_
  refine kr_get (C := "MonitorWays$Search") (T := TX3) (N := 11) hx hb hts hin_X3 hown hK hP 36 (by decide) (E_srch _ _ _ _) rfl 1 (by decide) lk_f104 (fun _ h9 => h9) rfl dX6_explore_4 ?_
  refine lv_if_ne (tgt := 17) hx hb dX6_explore_7 (by decide) (fun c_1 => absurd (hd) c_1) (fun c_1 => ?_)
  refine lv_aload_n hx hb dX6_explore_10 rfl (lv_at hl 0 rfl) ?_
  refine kr_get (C := "MonitorWays") (T := TX6) (N := 4) hx hb hts hin_X6 hown hK hP 0 (by decide) (E_main _ _ _ _) rfl 2 (by decide) lk_f30 (fun _ h9 => h9) rfl dX6_explore_11 ?_
  refine kr_callVvX (As := []) (rest := []) ⟨hx, hb, hml, hown, hts⟩ (c_hThrough l D gc ad ln iv lv Kf J hok) (cwV 0 hts (goodV (fun _ h => tcons h) tw_411 tw_412 tw_413 tw_6 tw_414) rfl rfl rfl (by decide +kernel) ⟨Nat.le_of_ble_eq_true rfl, Nat.le_of_ble_eq_true rfl⟩) (kr_recv hK hP 36 (by decide) (E_srch _ _ _ _) rfl) hK hP hD hS hA rfl hl.1 rfl (Nat.le_of_ble_eq_true rfl) dX6_explore_14 ⟨by (try dsimp only [rX]) <;> omega, by (try dsimp only [rX]) <;> omega⟩ (fun ad1 H locs hag1 hP hD hS => ?_)
  have eq0 : ad 0 = ad1 0 := (hag1 0 (by decide)).symm
  rw [eq0] at hl
  have hag : ∀ c, c < 39 → ad1 c = M0.1 c := fun c hc => (hag1 c hc).trans (hag c hc)
  clear eq0
  obtain ⟨ad, had⟩ : ∃ z : Nat → Nat, z = ad1 := ⟨_, rfl⟩
  rw [← had] at hP hD hl hag
  refine lv_aload_n hx hb dX6_explore_17 rfl (lv_at hl 0 rfl) ?_
  refine kr_get (C := "MonitorWays") (T := TX6) (N := 4) hx hb hts hin_X6 hown hK hP 0 (by decide) (E_main _ _ _ _) rfl 2 (by decide) lk_f30 (fun _ h9 => h9) rfl dX6_explore_18 ?_
  refine kr_get (C := "MonitorWays$Search") (T := TX3) (N := 11) hx hb hts hin_X3 hown hK hP 36 (by decide) (E_srch _ _ _ _) rfl 2 (by decide) lk_f111 (fun _ h9 => h9) rfl dX6_explore_21 ?_
  refine W_room (cells' := cA (tI (ln, iv, lv) Kf J).1 - cA ln) (slots' := sA (tI (ln, iv, lv) Kf J).1 - sA ln) (by (try dsimp only [rX]) <;> omega) (by (try dsimp only [rX]) <;> omega) ?_
  exact kr_iretX (M := M0) hx hb hr hlocks hK hP hD hS rfl rfl hag dX6_explore_24
set_option maxHeartbeats 4000000 in
set_option maxRecDepth 100000 in
theorem c_xExploreD (l : Launch) (D : va_G) (gc : Nat → ClassId) (ad ln : Nat → Nat) (iv : Nat → Nat → Int32) (lv : Nat → Nat → Int64) (hd : ¬ iv 36 1 = 0) : kMi l yX6_explore wX6_explore ({ frames := 8, cells := 0, slots := 0, locals := 342 }) D vwCl (kT gc) 42 (kE gc) [.ref (ad 0)] (ad, ln, iv, lv) (ad, ln, iv, lv) (iv 36 2) := by
  refine ki_start (cc := cX6_explore) (maxL := 1) (ret := (some .int)) (by decide) rfl (Nat.le_of_ble_eq_true rfl) ?_
  intro p9 e9 s m9 below meth c9 A ls hx hb hr hts hown hlocks hml hA hK hP hD hS hl
  have hl : lv_has ls 1 [(0, .ref (ad 0))] := hl
  have hown : s.vm.findClass "MonitorWays" = some m9.cls := hown
  have hin_X6 : ∀ w ∈ u_ws "MonitorWays" TX6 4, w ∈ wX6_explore := fun w h => tcons (inX6 w h)
  have hin_X3 : ∀ w ∈ u_ws "MonitorWays$Search" TX3 11, w ∈ wX6_explore := fun w h => tcons (inX3 w h)
  have lk_f30 := hts _ (tcons tw_208)
  have lk_f104 := hts _ (tcons tw_168)
  have lk_f111 := hts _ (tcons tw_170)
  refine lv_aload_n hx hb dX6_explore_0 rfl (lv_at hl 0 rfl) ?_
  refine kr_get (C := "MonitorWays") (T := TX6) (N := 4) hx hb hts hin_X6 hown hK hP 0 (by decide) (E_main _ _ _ _) rfl 2 (by decide) lk_f30 (fun _ h9 => h9) rfl dX6_explore_1 ?_
  refine kr_get (C := "MonitorWays$Search") (T := TX3) (N := 11) hx hb hts hin_X3 hown hK hP 36 (by decide) (E_srch _ _ _ _) rfl 1 (by decide) lk_f104 (fun _ h9 => h9) rfl dX6_explore_4 ?_
  refine lv_if_ne (tgt := 17) hx hb dX6_explore_7 (by decide) (fun c_1 => ?_) (fun c_1 => absurd c_1 (hd))
  refine lv_aload_n hx hb dX6_explore_17 rfl (lv_at hl 0 rfl) ?_
  refine kr_get (C := "MonitorWays") (T := TX6) (N := 4) hx hb hts hin_X6 hown hK hP 0 (by decide) (E_main _ _ _ _) rfl 2 (by decide) lk_f30 (fun _ h9 => h9) rfl dX6_explore_18 ?_
  refine kr_get (C := "MonitorWays$Search") (T := TX3) (N := 11) hx hb hts hin_X3 hown hK hP 36 (by decide) (E_srch _ _ _ _) rfl 2 (by decide) lk_f111 (fun _ h9 => h9) rfl dX6_explore_21 ?_
  exact kr_iret hx hb hr hlocks hK hP hD hS rfl rfl dX6_explore_24
