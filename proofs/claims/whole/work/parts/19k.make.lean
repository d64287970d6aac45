set_option maxHeartbeats 4000000 in
set_option maxRecDepth 100000 in
theorem c_nProg (l : Launch) (D : va_G) (gc : Nat → ClassId) (a : Nat) : kMn l yX2_init wX2_init ({ frames := 1, cells := 2, slots := 12, locals := 40 }) D vwCl (kT gc) [.ref a] [(a, .inr (2, [.null, .null, .int 0]))] (fun u => [(a, .inr (2, [.ref (u 0), .ref (u 1), .int 0])), (u 0, .inl (gc 0, 6, .inl (fun _ => 0))), (u 1, .inl (gc 0, 6, .inl (fun _ => 0)))]) := by
  refine kn_start (cc := cX2_init) (maxL := 1) (by decide) rfl (Nat.le_of_ble_eq_true rfl) ?_
  intro p9 e9 s m9 below meth c9 A ls hx hb hr hts hown hlocks hml hA hK hP hD hS hO hin hl
  obtain ⟨m, hm9⟩ : ∃ z, z = m9 := ⟨_, rfl⟩
  subst hm9
  have hl : lv_has ls 1 [(0, .ref a)] := hl
  have hown : s.vm.findClass "MonitorWays$Program" = some m.cls := hown
  have hin_X2 : ∀ w ∈ u_ws "MonitorWays$Program" TX2 3, w ∈ wX2_init := fun w h => tcons (inX2 w h)
  have lk_f9 := hts _ (tcons tw_27)
  have lk_f15 := hts _ (tcons tw_29)
  refine lv_aload_n hx hb dX2_init_0 rfl (lv_at hl 0 rfl) ?_
  refine W.objInit hx hb hown (hts _ (tcons tw_26)) (hts _ (tcons tw_18)) (hts _ (tcons tw_19)) rfl (by rw [hml]; exact hl.1) rfl dX2_init_1 (Nat.le_of_ble_eq_true rfl) (Nat.le_of_ble_eq_true rfl) ?_
  refine W.eq (g2 := F0 m 4 ls []) rfl ?_
  refine lv_aload_n hx hb dX2_init_4 rfl (lv_at hl 0 rfl) ?_
  refine lv_bipush (v := 6) hx hb dX2_init_5 (by decide) ?_
  refine kr_topi (y := nI 6) (by decide) ?_
  refine kr_newI (N := 6) hx hb (hts _ (tcons tw_41)) hK hP hD hS hA 0 rfl (Nat.le_of_ble_eq_true rfl) (Nat.le_of_ble_eq_true rfl) (Nat.le_of_ble_eq_true rfl) dX2_init_7 (fun q1 H hP hD hS => ?_)
  have hP : va_P D vwCl [(a, .inr (2, [.null, .null, .int 0])), (q1, .inl (gc 0, 6, .inl (fun _ => 0)))] H := hP
  have hD : va_D A [(a, .inr (2, [.null, .null, .int 0])), (q1, .inl (gc 0, 6, .inl (fun _ => 0)))] := hD
  refine va_putF (D := D) (ci := 2) (v := .ref q1) (ty := .array .int) (C := "MonitorWays$Program") (T := TX2) (N := 3) hx hb hts hin_X2 tyX2 ok_tyX2 ok_nX2 hown hK hP hD hS 0 rfl rfl 0 (by decide) lk_f9 (fun _ h9 => h9) rfl hin rfl (by decide +kernel) rfl rfl (Nat.le_of_ble_eq_true rfl) dX2_init_9 (fun H locs hP hD hS => ?_)
  have hP : va_P D vwCl [(a, .inr (2, [.ref q1, .null, .int 0])), (q1, .inl (gc 0, 6, .inl (fun _ => 0)))] H := hP
  have hD : va_D A [(a, .inr (2, [.ref q1, .null, .int 0])), (q1, .inl (gc 0, 6, .inl (fun _ => 0)))] := hD
  refine lv_aload_n hx hb dX2_init_12 rfl (lv_at hl 0 rfl) ?_
  refine lv_bipush (v := 6) hx hb dX2_init_13 (by decide) ?_
  refine kr_topi (y := nI 6) (by decide) ?_
  refine kr_newI (N := 6) hx hb (hts _ (tcons tw_41)) hK hP hD hS hA 0 rfl (Nat.le_of_ble_eq_true rfl) (Nat.le_of_ble_eq_true rfl) (Nat.le_of_ble_eq_true rfl) dX2_init_15 (fun q2 H hP hD hS => ?_)
  have hP : va_P D vwCl [(a, .inr (2, [.ref q1, .null, .int 0])), (q1, .inl (gc 0, 6, .inl (fun _ => 0))), (q2, .inl (gc 0, 6, .inl (fun _ => 0)))] H := hP
  have hD : va_D A [(a, .inr (2, [.ref q1, .null, .int 0])), (q1, .inl (gc 0, 6, .inl (fun _ => 0))), (q2, .inl (gc 0, 6, .inl (fun _ => 0)))] := hD
  refine va_putF (D := D) (ci := 2) (v := .ref q2) (ty := .array .int) (C := "MonitorWays$Program") (T := TX2) (N := 3) hx hb hts hin_X2 tyX2 ok_tyX2 ok_nX2 hown hK hP hD hS 0 rfl rfl 1 (by decide) lk_f15 (fun _ h9 => h9) rfl hin rfl (by decide +kernel) rfl rfl (Nat.le_of_ble_eq_true rfl) dX2_init_17 (fun H locs hP hD hS => ?_)
  have hP : va_P D vwCl [(a, .inr (2, [.ref q1, .ref q2, .int 0])), (q1, .inl (gc 0, 6, .inl (fun _ => 0))), (q2, .inl (gc 0, 6, .inl (fun _ => 0)))] H := hP
  have hD : va_D A [(a, .inr (2, [.ref q1, .ref q2, .int 0])), (q1, .inl (gc 0, 6, .inl (fun _ => 0))), (q2, .inl (gc 0, 6, .inl (fun _ => 0)))] := hD
  have hP9 : va_P D vwCl ([(a, .inr (2, [.ref q1, .ref q2, .int 0])), (q1, .inl (gc 0, 6, .inl (fun _ => 0))), (q2, .inl (gc 0, 6, .inl (fun _ => 0)))]) H := hP.sub [0, 1, 2] rfl
  have hD9 : va_D A ([(a, .inr (2, [.ref q1, .ref q2, .int 0])), (q1, .inl (gc 0, 6, .inl (fun _ => 0))), (q2, .inl (gc 0, 6, .inl (fun _ => 0)))]) := hD.sub [0, 1, 2] (by decide) rfl
  exact kn_ret hx hb hr hlocks hK (adL [q1, q2]) hP9 hD9 hS dX2_init_20
set_option maxHeartbeats 4000000 in
set_option maxRecDepth 100000 in
theorem c_nWk (l : Launch) (D : va_G) (gc : Nat → ClassId) (a b : Nat) : kMn l yX5_init wX5_init ({ frames := 1, cells := 0, slots := 0, locals := 40 }) D vwCl (kT gc) [.ref a, .ref b] [(a, .inr (5, [.int 0, .int 0, .int 0, .int 0, .int 0, .int 0, .null, .int 0]))] (fun u => [(a, .inr (5, [.int 0, .int 0, .int 0, .int 0, .int 0, .int 0, .ref b, .int 0]))]) := by
  refine kn_start (cc := cX5_init) (maxL := 2) (by decide) rfl (Nat.le_of_ble_eq_true rfl) ?_
  intro p9 e9 s m9 below meth c9 A ls hx hb hr hts hown hlocks hml hA hK hP hD hS hO hin hl
  obtain ⟨m, hm9⟩ : ∃ z, z = m9 := ⟨_, rfl⟩
  subst hm9
  have hl : lv_has ls 2 [(0, .ref a), (1, .ref b)] := hl
  have hown : s.vm.findClass "MonitorWays$Worker" = some m.cls := hown
  have hin_X5 : ∀ w ∈ u_ws "MonitorWays$Worker" TX5 8, w ∈ wX5_init := fun w h => tcons (inX5 w h)
  have lk_f9 := hts _ (tcons tw_68)
  refine lv_aload_n hx hb dX5_init_0 rfl (lv_at hl 0 rfl) ?_
  refine W.objInit hx hb hown (hts _ (tcons tw_56)) (hts _ (tcons tw_18)) (hts _ (tcons tw_19)) rfl (by rw [hml]; exact hl.1) rfl dX5_init_1 (Nat.le_of_ble_eq_true rfl) (Nat.le_of_ble_eq_true rfl) ?_
  refine W.eq (g2 := F0 m 4 ls []) rfl ?_
  refine lv_aload_n hx hb dX5_init_4 rfl (lv_at hl 0 rfl) ?_
  refine lv_aload_n hx hb dX5_init_5 rfl (lv_at hl 1 rfl) ?_
  refine va_putF (D := D) (ci := 5) (v := .ref b) (ty := .object "MonitorWays$Program") (C := "MonitorWays$Worker") (T := TX5) (N := 8) hx hb hts hin_X5 tyX5 ok_tyX5 ok_nX5 hown hK hP hD hS 0 rfl rfl 6 (by decide) lk_f9 (fun _ h9 => h9) rfl hin rfl (by decide +kernel) rfl rfl (Nat.le_of_ble_eq_true rfl) dX5_init_6 (fun H locs hP hD hS => ?_)
  have hP : va_P D vwCl [(a, .inr (5, [.int 0, .int 0, .int 0, .int 0, .int 0, .int 0, .ref b, .int 0]))] H := hP
  have hD : va_D A [(a, .inr (5, [.int 0, .int 0, .int 0, .int 0, .int 0, .int 0, .ref b, .int 0]))] := hD
  have hP9 : va_P D vwCl ([(a, .inr (5, [.int 0, .int 0, .int 0, .int 0, .int 0, .int 0, .ref b, .int 0]))]) H := hP.sub [0] rfl
  have hD9 : va_D A ([(a, .inr (5, [.int 0, .int 0, .int 0, .int 0, .int 0, .int 0, .ref b, .int 0]))]) := hD.sub [0] (by decide) rfl
  exact kn_ret hx hb hr hlocks hK (adL []) hP9 hD9 hS dX5_init_9
set_option maxHeartbeats 4000000 in
set_option maxRecDepth 100000 in
theorem c_nMon (l : Launch) (D : va_G) (gc : Nat → ClassId) (a : Nat) : kMn l yX1_init wX1_init ({ frames := 1, cells := 1, slots := 4, locals := 40 }) D vwCl (kT gc) [.ref a] [(a, .inr (1, [.int 0, .int 0, .int 0, .null]))] (fun u => [(a, .inr (1, [.int 0, .int 0, .int 0, .ref (u 0)])), (u 0, .inl (gc 0, 4, .inl (fun _ => 0)))]) := by
  refine kn_start (cc := cX1_init) (maxL := 1) (by decide) rfl (Nat.le_of_ble_eq_true rfl) ?_
  intro p9 e9 s m9 below meth c9 A ls hx hb hr hts hown hlocks hml hA hK hP hD hS hO hin hl
  obtain ⟨m, hm9⟩ : ∃ z, z = m9 := ⟨_, rfl⟩
  subst hm9
  have hl : lv_has ls 1 [(0, .ref a)] := hl
  have hown : s.vm.findClass "MonitorWays$Monitor" = some m.cls := hown
  have hin_X1 : ∀ w ∈ u_ws "MonitorWays$Monitor" TX1 4, w ∈ wX1_init := fun w h => tcons (inX1 w h)
  have lk_f9 := hts _ (tcons tw_100)
  refine lv_aload_n hx hb dX1_init_0 rfl (lv_at hl 0 rfl) ?_
  refine W.objInit hx hb hown (hts _ (tcons tw_91)) (hts _ (tcons tw_18)) (hts _ (tcons tw_19)) rfl (by rw [hml]; exact hl.1) rfl dX1_init_1 (Nat.le_of_ble_eq_true rfl) (Nat.le_of_ble_eq_true rfl) ?_
  refine W.eq (g2 := F0 m 4 ls []) rfl ?_
  refine lv_aload_n hx hb dX1_init_4 rfl (lv_at hl 0 rfl) ?_
  refine lv_iconst (v := 4) hx hb dX1_init_5 (by decide) ?_
  refine kr_topi (y := nI 4) (by decide) ?_
  refine kr_newI (N := 4) hx hb (hts _ (tcons tw_41)) hK hP hD hS hA 0 rfl (Nat.le_of_ble_eq_true rfl) (Nat.le_of_ble_eq_true rfl) (Nat.le_of_ble_eq_true rfl) dX1_init_6 (fun q1 H hP hD hS => ?_)
  have hP : va_P D vwCl [(a, .inr (1, [.int 0, .int 0, .int 0, .null])), (q1, .inl (gc 0, 4, .inl (fun _ => 0)))] H := hP
  have hD : va_D A [(a, .inr (1, [.int 0, .int 0, .int 0, .null])), (q1, .inl (gc 0, 4, .inl (fun _ => 0)))] := hD
  refine va_putF (D := D) (ci := 1) (v := .ref q1) (ty := .array .int) (C := "MonitorWays$Monitor") (T := TX1) (N := 4) hx hb hts hin_X1 tyX1 ok_tyX1 ok_nX1 hown hK hP hD hS 0 rfl rfl 3 (by decide) lk_f9 (fun _ h9 => h9) rfl hin rfl (by decide +kernel) rfl rfl (Nat.le_of_ble_eq_true rfl) dX1_init_8 (fun H locs hP hD hS => ?_)
  have hP : va_P D vwCl [(a, .inr (1, [.int 0, .int 0, .int 0, .ref q1])), (q1, .inl (gc 0, 4, .inl (fun _ => 0)))] H := hP
  have hD : va_D A [(a, .inr (1, [.int 0, .int 0, .int 0, .ref q1])), (q1, .inl (gc 0, 4, .inl (fun _ => 0)))] := hD
  have hP9 : va_P D vwCl ([(a, .inr (1, [.int 0, .int 0, .int 0, .ref q1])), (q1, .inl (gc 0, 4, .inl (fun _ => 0)))]) H := hP.sub [0, 1] rfl
  have hD9 : va_D A ([(a, .inr (1, [.int 0, .int 0, .int 0, .ref q1])), (q1, .inl (gc 0, 4, .inl (fun _ => 0)))]) := hD.sub [0, 1] (by decide) rfl
  exact kn_ret hx hb hr hlocks hK (adL [q1]) hP9 hD9 hS dX1_init_11
