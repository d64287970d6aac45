set_option maxHeartbeats 4000000 in
set_option maxRecDepth 100000 in
theorem c_nStates (l : Launch) (D : va_G) (gc : Nat → ClassId) (a : Nat) : kMn l yX4_init wX4_init ({ frames := 1, cells := 2, slots := 256, locals := 40 }) D vwCl (kT gc) [.ref a] [(a, .inr (4, [.int 0, .null, .null]))] (fun u => [(a, .inr (4, [.int 0, .ref (u 0), .ref (u 1)])), (u 0, .inl (gc 2, 192, .inr (.inl (fun _ => 0)))), (u 1, .inl (gc 0, 64, .inl (fun _ => 0)))]) := by
  refine kn_start (cc := cX4_init) (maxL := 1) (by decide) rfl (Nat.le_of_ble_eq_true rfl) ?_
  intro p9 e9 s m9 below meth c9 A ls hx hb hr hts hown hlocks hml hA hK hP hD hS hO hin hl
  obtain ⟨m, hm9⟩ : ∃ z, z = m9 := ⟨_, rfl⟩
  subst hm9
  have hl : lv_has ls 1 [(0, .ref a)] := hl
  have hown : s.vm.findClass "MonitorWays$States" = some m.cls := hown
  have hin_X4 : ∀ w ∈ u_ws "MonitorWays$States" TX4 3, w ∈ wX4_init := fun w h => tcons (inX4 w h)
  have lk_f15 := hts _ (tcons tw_154)
  have lk_f19 := hts _ (tcons tw_155)
  refine lv_aload_n hx hb dX4_init_0 rfl (lv_at hl 0 rfl) ?_
  refine W.objInit hx hb hown (hts _ (tcons tw_149)) (hts _ (tcons tw_18)) (hts _ (tcons tw_19)) rfl (by rw [hml]; exact hl.1) rfl dX4_init_1 (Nat.le_of_ble_eq_true rfl) (Nat.le_of_ble_eq_true rfl) ?_
  refine W.eq (g2 := F0 m 4 ls []) rfl ?_
  refine lv_aload_n hx hb dX4_init_4 rfl (lv_at hl 0 rfl) ?_
  refine lv_bipush (v := 64) hx hb dX4_init_5 (by decide) ?_
  refine kr_joinSi (As := [.int 64]) (rest := [.ref a]) (wr := [(a, .inr (4, [.int 0, .null, .null]))]) ⟨hx, hb, hml, hown, hts⟩ (c_zRoom l D gc (fun _ => 0) (fun _ => 0) (fun _ _ => 0) (fun _ _ => 0) 64) (cwS 1 hts (goodS (fun _ h => tcons h) tw_150 tw_151 tw_7 tw_152) rfl rfl rfl (by decide +kernel) ⟨Nat.le_of_ble_eq_true rfl, Nat.le_of_ble_eq_true rfl⟩) hK hP hD hS hA [] [0] rfl rfl (by decide) (by decide) (by decide) rfl hl.1 rfl (Nat.le_of_ble_eq_true rfl) dX4_init_7 ⟨Nat.le_of_ble_eq_true rfl, Nat.le_of_ble_eq_true rfl⟩ (fun H locs hP hD hS => ?_)
  have hP : va_P D vwCl [(a, .inr (4, [.int 0, .null, .null]))] H := hP
  have hD : va_D A [(a, .inr (4, [.int 0, .null, .null]))] := hD
  refine kr_topi (y := 48) (by decide) ?_
  refine lv_iconst (v := 4) hx hb dX4_init_10 (by decide) ?_
  refine lv_imul hx hb dX4_init_11 ?_
  refine kr_topi (y := 192) (by decide) ?_
  refine kr_topi (y := nI 192) (by decide) ?_
  refine kr_newJ (N := 192) hx hb (hts _ (tcons tw_164)) hK hP hD hS hA 2 rfl (Nat.le_of_ble_eq_true rfl) (Nat.le_of_ble_eq_true rfl) (Nat.le_of_ble_eq_true rfl) dX4_init_12 (fun q1 H hP hD hS => ?_)
  have hP : va_P D vwCl [(a, .inr (4, [.int 0, .null, .null])), (q1, .inl (gc 2, 192, .inr (.inl (fun _ => 0))))] H := hP
  have hD : va_D A [(a, .inr (4, [.int 0, .null, .null])), (q1, .inl (gc 2, 192, .inr (.inl (fun _ => 0))))] := hD
  refine va_put (D := D) (ci := 4) (v := .ref q1) (ty := .array .long) (C := "MonitorWays$States") (T := TX4) (N := 3) hx hb hts hin_X4 tyX4 ok_tyX4 ok_nX4 hown hK hP hD hS 0 rfl rfl 1 (by decide) lk_f15 (fun _ h9 => h9) rfl (by decide +kernel) rfl rfl (Nat.le_of_ble_eq_true rfl) dX4_init_14 (fun H locs hP hD hS => ?_)
  have hP : va_P D vwCl [(a, .inr (4, [.int 0, .ref q1, .null])), (q1, .inl (gc 2, 192, .inr (.inl (fun _ => 0))))] H := hP
  have hD : va_D A [(a, .inr (4, [.int 0, .ref q1, .null])), (q1, .inl (gc 2, 192, .inr (.inl (fun _ => 0))))] := hD
  refine lv_aload_n hx hb dX4_init_17 rfl (lv_at hl 0 rfl) ?_
  refine lv_bipush (v := 64) hx hb dX4_init_18 (by decide) ?_
  refine kr_topi (y := nI 64) (by decide) ?_
  refine kr_newI (N := 64) hx hb (hts _ (tcons tw_41)) hK hP hD hS hA 0 rfl (Nat.le_of_ble_eq_true rfl) (Nat.le_of_ble_eq_true rfl) (Nat.le_of_ble_eq_true rfl) dX4_init_20 (fun q2 H hP hD hS => ?_)
  have hP : va_P D vwCl [(a, .inr (4, [.int 0, .ref q1, .null])), (q1, .inl (gc 2, 192, .inr (.inl (fun _ => 0)))), (q2, .inl (gc 0, 64, .inl (fun _ => 0)))] H := hP
  have hD : va_D A [(a, .inr (4, [.int 0, .ref q1, .null])), (q1, .inl (gc 2, 192, .inr (.inl (fun _ => 0)))), (q2, .inl (gc 0, 64, .inl (fun _ => 0)))] := hD
  refine va_put (D := D) (ci := 4) (v := .ref q2) (ty := .array .int) (C := "MonitorWays$States") (T := TX4) (N := 3) hx hb hts hin_X4 tyX4 ok_tyX4 ok_nX4 hown hK hP hD hS 0 rfl rfl 2 (by decide) lk_f19 (fun _ h9 => h9) rfl (by decide +kernel) rfl rfl (Nat.le_of_ble_eq_true rfl) dX4_init_22 (fun H locs hP hD hS => ?_)
  have hP : va_P D vwCl [(a, .inr (4, [.int 0, .ref q1, .ref q2])), (q1, .inl (gc 2, 192, .inr (.inl (fun _ => 0)))), (q2, .inl (gc 0, 64, .inl (fun _ => 0)))] H := hP
  have hD : va_D A [(a, .inr (4, [.int 0, .ref q1, .ref q2])), (q1, .inl (gc 2, 192, .inr (.inl (fun _ => 0)))), (q2, .inl (gc 0, 64, .inl (fun _ => 0)))] := hD
  have hP9 : va_P D vwCl ([(a, .inr (4, [.int 0, .ref q1, .ref q2])), (q1, .inl (gc 2, 192, .inr (.inl (fun _ => 0)))), (q2, .inl (gc 0, 64, .inl (fun _ => 0)))]) H := hP.sub [0, 1, 2] rfl
  have hD9 : va_D A ([(a, .inr (4, [.int 0, .ref q1, .ref q2])), (q1, .inl (gc 2, 192, .inr (.inl (fun _ => 0)))), (q2, .inl (gc 0, 64, .inl (fun _ => 0)))]) := hD.sub [0, 1, 2] (by decide) rfl
  exact kn_ret hx hb hr hlocks hK (adL [q1, q2]) hP9 hD9 hS dX4_init_25
set_option maxHeartbeats 4000000 in
set_option maxRecDepth 100000 in
theorem c_nSearch (l : Launch) (D : va_G) (gc : Nat → ClassId) (a b : Nat) : kMn l yX3_init wX3_init ({ frames := 2, cells := 5, slots := 279, locals := 60 }) D vwCl (kT gc) [.ref a, .ref b] [(a, .inr (3, [.null, .int 0, .int 0, .int 0, .int 0, .int 0, .int 0, .null, .null, .null, .int 0]))] (fun u => [(a, .inr (3, [.ref (u 0), .int 0, .int 0, .int 0, .int 0, .int 0, .int 0, .ref b, .ref (u 1), .ref (u 4), .int 0])), (u 0, .inl (gc 1, 4, .inl (fun _ => 0))), (u 1, .inr (4, [.int 0, .ref (u 2), .ref (u 3)])), (u 2, .inl (gc 2, 192, .inr (.inl (fun _ => 0)))), (u 3, .inl (gc 0, 64, .inl (fun _ => 0))), (u 4, .inl (gc 2, 16, .inr (.inl (fun _ => 0))))]) := by
  refine kn_start (cc := cX3_init) (maxL := 2) (by decide) rfl (Nat.le_of_ble_eq_true rfl) ?_
  intro p9 e9 s m9 below meth c9 A ls hx hb hr hts hown hlocks hml hA hK hP hD hS hO hin hl
  obtain ⟨m, hm9⟩ : ∃ z, z = m9 := ⟨_, rfl⟩
  subst hm9
  have hl : lv_has ls 2 [(0, .ref a), (1, .ref b)] := hl
  have hown : s.vm.findClass "MonitorWays$Search" = some m.cls := hown
  have hin_X3 : ∀ w ∈ u_ws "MonitorWays$Search" TX3 11, w ∈ wX3_init := fun w h => tcons (inX3 w h)
  have hin_X4 : ∀ w ∈ u_ws "MonitorWays$States" TX4 3, w ∈ wX3_init := fun w h => tcons (inX4 w h)
  have lk_f9 := hts _ (tcons tw_165)
  have lk_f18 := hts _ (tcons tw_180)
  have lk_f22 := hts _ (tcons tw_181)
  have lk_f26 := hts _ (tcons tw_179)
  refine lv_aload_n hx hb dX3_init_0 rfl (lv_at hl 0 rfl) ?_
  refine W.objInit hx hb hown (hts _ (tcons tw_143)) (hts _ (tcons tw_18)) (hts _ (tcons tw_19)) rfl (by rw [hml]; exact hl.1) rfl dX3_init_1 (Nat.le_of_ble_eq_true rfl) (Nat.le_of_ble_eq_true rfl) ?_
  refine W.eq (g2 := F0 m 4 ls []) rfl ?_
  refine lv_aload_n hx hb dX3_init_4 rfl (lv_at hl 0 rfl) ?_
  refine lv_iconst (v := 4) hx hb dX3_init_5 (by decide) ?_
  refine kr_topi (y := nI 4) (by decide) ?_
  refine kr_newZ (N := 4) hx hb (hts _ (tcons tw_163)) hK hP hD hS hA 1 rfl (Nat.le_of_ble_eq_true rfl) (Nat.le_of_ble_eq_true rfl) (Nat.le_of_ble_eq_true rfl) dX3_init_6 (fun q1 H hP hD hS => ?_)
  have hP : va_P D vwCl [(a, .inr (3, [.null, .int 0, .int 0, .int 0, .int 0, .int 0, .int 0, .null, .null, .null, .int 0])), (q1, .inl (gc 1, 4, .inl (fun _ => 0)))] H := hP
  have hD : va_D A [(a, .inr (3, [.null, .int 0, .int 0, .int 0, .int 0, .int 0, .int 0, .null, .null, .null, .int 0])), (q1, .inl (gc 1, 4, .inl (fun _ => 0)))] := hD
  refine va_putF (D := D) (ci := 3) (v := .ref q1) (ty := .array .boolean) (C := "MonitorWays$Search") (T := TX3) (N := 11) hx hb hts hin_X3 tyX3 ok_tyX3 ok_nX3 hown hK hP hD hS 0 rfl rfl 0 (by decide) lk_f9 (fun _ h9 => h9) rfl hin rfl (by decide +kernel) rfl rfl (Nat.le_of_ble_eq_true rfl) dX3_init_8 (fun H locs hP hD hS => ?_)
  have hP : va_P D vwCl [(a, .inr (3, [.ref q1, .int 0, .int 0, .int 0, .int 0, .int 0, .int 0, .null, .null, .null, .int 0])), (q1, .inl (gc 1, 4, .inl (fun _ => 0)))] H := hP
  have hD : va_D A [(a, .inr (3, [.ref q1, .int 0, .int 0, .int 0, .int 0, .int 0, .int 0, .null, .null, .null, .int 0])), (q1, .inl (gc 1, 4, .inl (fun _ => 0)))] := hD
  refine lv_aload_n hx hb dX3_init_11 rfl (lv_at hl 0 rfl) ?_
  refine va_new (ci := 4) (fs := [.int 0, .null, .null]) (C := "MonitorWays$States") (T := TX4) (N := 3) hx hb hts hin_X4 tyX4 ok_tyX4 hown (hts _ (tcons tw_144)) (hts _ (tcons tw_145)) (hts _ (tcons tw_7)) hK hP hD hS hA rfl (fun j hj => by rcases (show j = 0 ∨ j = 1 ∨ j = 2 by omega) with rfl | rfl | rfl <;> rfl) (Nat.le_of_ble_eq_true rfl) (Nat.le_of_ble_eq_true rfl) dX3_init_12 (fun q2 H hP hD hS => ?_)
  have hP : va_P D vwCl [(a, .inr (3, [.ref q1, .int 0, .int 0, .int 0, .int 0, .int 0, .int 0, .null, .null, .null, .int 0])), (q1, .inl (gc 1, 4, .inl (fun _ => 0))), (q2, .inr (4, [.int 0, .null, .null]))] H := hP
  have hD : va_D A [(a, .inr (3, [.ref q1, .int 0, .int 0, .int 0, .int 0, .int 0, .int 0, .null, .null, .null, .int 0])), (q1, .inl (gc 1, 4, .inl (fun _ => 0))), (q2, .inr (4, [.int 0, .null, .null]))] := hD
  refine lv_dup hx hb dX3_init_15 rfl ?_
  refine kr_callN (As := []) (rest := [.ref q2, .ref a]) (wr := [(a, .inr (3, [.ref q1, .int 0, .int 0, .int 0, .int 0, .int 0, .int 0, .null, .null, .null, .int 0])), (q1, .inl (gc 1, 4, .inl (fun _ => 0)))]) ⟨hx, hb, hml, hown, hts⟩ (c_nStates l D gc q2) (cwI 0 hts (goodC (fun _ h => tcons h) tw_148) rfl rfl rfl (hts _ (tcons tw_7)) (hts _ (tcons tw_146)) (hts _ (tcons tw_147)) rfl (by decide +kernel) ⟨Nat.le_of_ble_eq_true rfl, Nat.le_of_ble_eq_true rfl⟩) hK hO hP hD hS hA [2] [0, 1] rfl rfl (by decide) (by decide) (by decide) rfl hl.1 rfl (Nat.le_of_ble_eq_true rfl) dX3_init_16 ⟨Nat.le_of_ble_eq_true rfl, Nat.le_of_ble_eq_true rfl⟩ (fun u3 H locs hP hD hS => ?_)
  have hP : va_P D vwCl [(a, .inr (3, [.ref q1, .int 0, .int 0, .int 0, .int 0, .int 0, .int 0, .null, .null, .null, .int 0])), (q1, .inl (gc 1, 4, .inl (fun _ => 0))), (q2, .inr (4, [.int 0, .ref (u3 0), .ref (u3 1)])), (u3 0, .inl (gc 2, 192, .inr (.inl (fun _ => 0)))), (u3 1, .inl (gc 0, 64, .inl (fun _ => 0)))] H := hP
  have hD : va_D A [(a, .inr (3, [.ref q1, .int 0, .int 0, .int 0, .int 0, .int 0, .int 0, .null, .null, .null, .int 0])), (q1, .inl (gc 1, 4, .inl (fun _ => 0))), (q2, .inr (4, [.int 0, .ref (u3 0), .ref (u3 1)])), (u3 0, .inl (gc 2, 192, .inr (.inl (fun _ => 0)))), (u3 1, .inl (gc 0, 64, .inl (fun _ => 0)))] := hD
  refine va_putF (D := D) (ci := 3) (v := .ref q2) (ty := .object "MonitorWays$States") (C := "MonitorWays$Search") (T := TX3) (N := 11) hx hb hts hin_X3 tyX3 ok_tyX3 ok_nX3 hown hK hP hD hS 0 rfl rfl 8 (by decide) lk_f18 (fun _ h9 => h9) rfl hin rfl (by decide +kernel) rfl rfl (Nat.le_of_ble_eq_true rfl) dX3_init_19 (fun H locs hP hD hS => ?_)
  have hP : va_P D vwCl [(a, .inr (3, [.ref q1, .int 0, .int 0, .int 0, .int 0, .int 0, .int 0, .null, .ref q2, .null, .int 0])), (q1, .inl (gc 1, 4, .inl (fun _ => 0))), (q2, .inr (4, [.int 0, .ref (u3 0), .ref (u3 1)])), (u3 0, .inl (gc 2, 192, .inr (.inl (fun _ => 0)))), (u3 1, .inl (gc 0, 64, .inl (fun _ => 0)))] H := hP
  have hD : va_D A [(a, .inr (3, [.ref q1, .int 0, .int 0, .int 0, .int 0, .int 0, .int 0, .null, .ref q2, .null, .int 0])), (q1, .inl (gc 1, 4, .inl (fun _ => 0))), (q2, .inr (4, [.int 0, .ref (u3 0), .ref (u3 1)])), (u3 0, .inl (gc 2, 192, .inr (.inl (fun _ => 0)))), (u3 1, .inl (gc 0, 64, .inl (fun _ => 0)))] := hD
  refine lv_aload_n hx hb dX3_init_22 rfl (lv_at hl 0 rfl) ?_
  refine lv_bipush (v := 16) hx hb dX3_init_23 (by decide) ?_
  refine kr_topi (y := nI 16) (by decide) ?_
  refine kr_newJ (N := 16) hx hb (hts _ (tcons tw_164)) hK hP hD hS hA 2 rfl (Nat.le_of_ble_eq_true rfl) (Nat.le_of_ble_eq_true rfl) (Nat.le_of_ble_eq_true rfl) dX3_init_25 (fun q4 H hP hD hS => ?_)
  have hP : va_P D vwCl [(a, .inr (3, [.ref q1, .int 0, .int 0, .int 0, .int 0, .int 0, .int 0, .null, .ref q2, .null, .int 0])), (q1, .inl (gc 1, 4, .inl (fun _ => 0))), (q2, .inr (4, [.int 0, .ref (u3 0), .ref (u3 1)])), (u3 0, .inl (gc 2, 192, .inr (.inl (fun _ => 0)))), (u3 1, .inl (gc 0, 64, .inl (fun _ => 0))), (q4, .inl (gc 2, 16, .inr (.inl (fun _ => 0))))] H := hP
  have hD : va_D A [(a, .inr (3, [.ref q1, .int 0, .int 0, .int 0, .int 0, .int 0, .int 0, .null, .ref q2, .null, .int 0])), (q1, .inl (gc 1, 4, .inl (fun _ => 0))), (q2, .inr (4, [.int 0, .ref (u3 0), .ref (u3 1)])), (u3 0, .inl (gc 2, 192, .inr (.inl (fun _ => 0)))), (u3 1, .inl (gc 0, 64, .inl (fun _ => 0))), (q4, .inl (gc 2, 16, .inr (.inl (fun _ => 0))))] := hD
  refine va_put (D := D) (ci := 3) (v := .ref q4) (ty := .array .long) (C := "MonitorWays$Search") (T := TX3) (N := 11) hx hb hts hin_X3 tyX3 ok_tyX3 ok_nX3 hown hK hP hD hS 0 rfl rfl 9 (by decide) lk_f22 (fun _ h9 => h9) rfl (by decide +kernel) rfl rfl (Nat.le_of_ble_eq_true rfl) dX3_init_27 (fun H locs hP hD hS => ?_)
  have hP : va_P D vwCl [(a, .inr (3, [.ref q1, .int 0, .int 0, .int 0, .int 0, .int 0, .int 0, .null, .ref q2, .ref q4, .int 0])), (q1, .inl (gc 1, 4, .inl (fun _ => 0))), (q2, .inr (4, [.int 0, .ref (u3 0), .ref (u3 1)])), (u3 0, .inl (gc 2, 192, .inr (.inl (fun _ => 0)))), (u3 1, .inl (gc 0, 64, .inl (fun _ => 0))), (q4, .inl (gc 2, 16, .inr (.inl (fun _ => 0))))] H := hP
  have hD : va_D A [(a, .inr (3, [.ref q1, .int 0, .int 0, .int 0, .int 0, .int 0, .int 0, .null, .ref q2, .ref q4, .int 0])), (q1, .inl (gc 1, 4, .inl (fun _ => 0))), (q2, .inr (4, [.int 0, .ref (u3 0), .ref (u3 1)])), (u3 0, .inl (gc 2, 192, .inr (.inl (fun _ => 0)))), (u3 1, .inl (gc 0, 64, .inl (fun _ => 0))), (q4, .inl (gc 2, 16, .inr (.inl (fun _ => 0))))] := hD
  refine lv_aload_n hx hb dX3_init_30 rfl (lv_at hl 0 rfl) ?_
  refine lv_aload_n hx hb dX3_init_31 rfl (lv_at hl 1 rfl) ?_
  refine va_putF (D := D) (ci := 3) (v := .ref b) (ty := .object "MonitorWays$Machine") (C := "MonitorWays$Search") (T := TX3) (N := 11) hx hb hts hin_X3 tyX3 ok_tyX3 ok_nX3 hown hK hP hD hS 0 rfl rfl 7 (by decide) lk_f26 (fun _ h9 => h9) rfl hin rfl (by decide +kernel) rfl rfl (Nat.le_of_ble_eq_true rfl) dX3_init_32 (fun H locs hP hD hS => ?_)
  have hP : va_P D vwCl [(a, .inr (3, [.ref q1, .int 0, .int 0, .int 0, .int 0, .int 0, .int 0, .ref b, .ref q2, .ref q4, .int 0])), (q1, .inl (gc 1, 4, .inl (fun _ => 0))), (q2, .inr (4, [.int 0, .ref (u3 0), .ref (u3 1)])), (u3 0, .inl (gc 2, 192, .inr (.inl (fun _ => 0)))), (u3 1, .inl (gc 0, 64, .inl (fun _ => 0))), (q4, .inl (gc 2, 16, .inr (.inl (fun _ => 0))))] H := hP
  have hD : va_D A [(a, .inr (3, [.ref q1, .int 0, .int 0, .int 0, .int 0, .int 0, .int 0, .ref b, .ref q2, .ref q4, .int 0])), (q1, .inl (gc 1, 4, .inl (fun _ => 0))), (q2, .inr (4, [.int 0, .ref (u3 0), .ref (u3 1)])), (u3 0, .inl (gc 2, 192, .inr (.inl (fun _ => 0)))), (u3 1, .inl (gc 0, 64, .inl (fun _ => 0))), (q4, .inl (gc 2, 16, .inr (.inl (fun _ => 0))))] := hD
  have hP9 : va_P D vwCl ([(a, .inr (3, [.ref q1, .int 0, .int 0, .int 0, .int 0, .int 0, .int 0, .ref b, .ref q2, .ref q4, .int 0])), (q1, .inl (gc 1, 4, .inl (fun _ => 0))), (q2, .inr (4, [.int 0, .ref (u3 0), .ref (u3 1)])), (u3 0, .inl (gc 2, 192, .inr (.inl (fun _ => 0)))), (u3 1, .inl (gc 0, 64, .inl (fun _ => 0))), (q4, .inl (gc 2, 16, .inr (.inl (fun _ => 0))))]) H := hP.sub [0, 1, 2, 3, 4, 5] rfl
  have hD9 : va_D A ([(a, .inr (3, [.ref q1, .int 0, .int 0, .int 0, .int 0, .int 0, .int 0, .ref b, .ref q2, .ref q4, .int 0])), (q1, .inl (gc 1, 4, .inl (fun _ => 0))), (q2, .inr (4, [.int 0, .ref (u3 0), .ref (u3 1)])), (u3 0, .inl (gc 2, 192, .inr (.inl (fun _ => 0)))), (u3 1, .inl (gc 0, 64, .inl (fun _ => 0))), (q4, .inl (gc 2, 16, .inr (.inl (fun _ => 0))))]) := hD.sub [0, 1, 2, 3, 4, 5] (by decide) rfl
  exact kn_ret hx hb hr hlocks hK (adL [q1, q2, (u3 0), (u3 1), q4]) hP9 hD9 hS dX3_init_35
