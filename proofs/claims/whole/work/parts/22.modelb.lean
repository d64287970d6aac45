def n_oPack (iv : Nat → Nat → Int32) (lv : Nat → Nat → Int64) (tc az : Nat) : Nat → Nat → Int64 := (up2L (up2L (up2L (up2L (up2L lv tc (az + 0) (r_oTpack iv lv 0)) tc (az + 1) (r_oTpack iv (up2L lv tc (az + 0) (r_oTpack iv lv 0)) 1)) tc (az + 2) (r_oTpack iv (up2L (up2L lv tc (az + 0) (r_oTpack iv lv 0)) tc (az + 1) (r_oTpack iv (up2L lv tc (az + 0) (r_oTpack iv lv 0)) 1)) 2)) tc (az + 3) (r_oTpack iv (up2L (up2L (up2L lv tc (az + 0) (r_oTpack iv lv 0)) tc (az + 1) (r_oTpack iv (up2L lv tc (az + 0) (r_oTpack iv lv 0)) 1)) tc (az + 2) (r_oTpack iv (up2L (up2L lv tc (az + 0) (r_oTpack iv lv 0)) tc (az + 1) (r_oTpack iv (up2L lv tc (az + 0) (r_oTpack iv lv 0)) 1)) 2)) 3)) tc (az + 4) ((((((((((((((((((((((((((((((0 * 8) + ((iv 12 0).toInt64)) + 1) * 8) + ((iv 13 0).toInt64)) * 8) + ((iv 14 0).toInt64)) * 4) + ((if iv 14 0 ≤ 0 then (0 : Int32) else iv 15 0).toInt64)) * 4) + ((if iv 14 0 ≤ 1 then (0 : Int32) else iv 15 1).toInt64)) * 4) + ((if iv 14 0 ≤ 2 then (0 : Int32) else iv 15 2).toInt64)) * 4) + ((if iv 14 0 ≤ 3 then (0 : Int32) else iv 15 3).toInt64)) * 8) + ((iv 12 1).toInt64)) + 1) * 8) + ((iv 13 1).toInt64)) * 8) + ((iv 14 1).toInt64)) * 4) + ((if iv 14 1 ≤ 0 then (0 : Int32) else iv 15 4).toInt64)) * 4) + ((if iv 14 1 ≤ 1 then (0 : Int32) else iv 15 5).toInt64)) * 4) + ((if iv 14 1 ≤ 2 then (0 : Int32) else iv 15 6).toInt64)) * 4) + ((if iv 14 1 ≤ 3 then (0 : Int32) else iv 15 7).toInt64)))
set_option maxHeartbeats 4000000 in
set_option maxRecDepth 100000 in
theorem c_oPack (l : Launch) (D : va_G) (gc : Nat → ClassId) (ad ln : Nat → Nat) (iv : Nat → Nat → Int32) (lv : Nat → Nat → Int64) (tc az : Nat) (htc : tc = 16 ∨ tc = 17) (haz : az + 5 ≤ lenL tc) : kMv l yX7_pack wX7_pack ({ frames := 1, cells := 0, slots := 0, locals := 23 }) D vwCl (kT gc) 20 (rE gc) [.ref (ad 0), .ref (ad (tc)), .int (nI az)] (ad, ln, iv, lv) (ad, ln, iv, n_oPack iv lv tc az) := by
  refine kv_start (cc := cX7_pack) (maxL := 7) (by decide) rfl (Nat.le_of_ble_eq_true rfl) ?_
  intro p9 e9 s m9 below meth c9 A ls hx hb hr hts hown hlocks hml hA hK hP hD hS hl
  have hl : lv_has ls 7 [(0, .ref (ad 0)), (1, .ref (ad (tc))), (2, .int (nI az))] := hl
  have hown : s.vm.findClass "MonitorWaysModel" = some m9.cls := hown
  have hin_X7 : ∀ w ∈ u_ws "MonitorWaysModel" TX7 27, w ∈ wX7_pack := fun w h => tcons (inX7 w h)
  have lk_c77 := hts _ (tcons tw_572)
  have lk_f45 := hts _ (tcons tw_586)
  have lk_f48 := hts _ (tcons tw_587)
  have lk_f51 := hts _ (tcons tw_588)
  have lk_c81 := hts _ (tcons tw_573)
  have lk_f54 := hts _ (tcons tw_589)
  refine lv_iconst (v := 0) hx hb dX7_pack_0 (by decide) ?_
  refine lv_istore_n (lv' := [(3, .int 0), (0, .ref (ad 0)), (1, .ref (ad (tc))), (2, .int (nI az))]) hx hb dX7_pack_1 rfl hl (by decide) rfl (fun ls hl => ?_)
  refine lv_iload_n hx hb dX7_pack_2 rfl (lv_at hl 0 rfl) ?_
  refine lv_iconst (v := 4) hx hb dX7_pack_3 (by decide) ?_
  refine lv_icmp_ge (tgt := 23) hx hb dX7_pack_4 (by decide) (fun c_1 => absurd c_1 (by decide)) (fun c_1 => ?_)
  refine lv_aload_n hx hb dX7_pack_7 rfl (lv_at hl 2 rfl) ?_
  refine lv_iload_n hx hb dX7_pack_8 rfl (lv_at hl 3 rfl) ?_
  refine lv_iload_n hx hb dX7_pack_9 rfl (lv_at hl 0 rfl) ?_
  refine lv_iadd hx hb dX7_pack_10 ?_
  refine kr_topi (y := nI (az + 0)) (nI_add az 0) ?_
  refine lv_aload_n hx hb dX7_pack_11 rfl (lv_at hl 1 rfl) ?_
  refine lv_iload_n hx hb dX7_pack_12 rfl (lv_at hl 0 rfl) ?_
  refine kr_callVl (As := [.int 0]) (rest := [.int (nI (az + 0)), .ref (ad (tc))]) ⟨hx, hb, hml, hown, hts⟩ (c_oTpack l D gc ad ln iv lv 0 (by decide)) (cwV 1 hts (goodV (fun _ h => tcons h) tw_568 tw_570 ts_26 tw_8 tw_571) rfl rfl rfl (by decide +kernel) ⟨Nat.le_of_ble_eq_true rfl, Nat.le_of_ble_eq_true rfl⟩) (kr_recv hK hP 0 (by decide) (R_0 _ _ _ _) rfl) hK hP hD hS hA rfl hl.1 rfl (Nat.le_of_ble_eq_true rfl) dX7_pack_13 ⟨Nat.le_of_ble_eq_true rfl, Nat.le_of_ble_eq_true rfl⟩ (fun H locs hP hD hS => ?_)
  refine kr_lastN hx hb hK hP hD hS tc 2 (by omega) (fun _ => R_la htc _ _ _ _) rfl (j := (az + 0)) (by omega) (lenL_lt tc) dX7_pack_16 (fun H locs hP hD hS => ?_)
  refine lv_iinc (v := 1) (lv' := [(3, .int 1), (0, .ref (ad 0)), (1, .ref (ad (tc))), (2, .int (nI az))]) hx hb dX7_pack_17 hl (k := 0) rfl (by decide) (by decide) rfl (fun ls hl => ?_)
  refine lv_goto (tgt := 2) hx hb dX7_pack_20 (by decide) ?_
  refine lv_iload_n hx hb dX7_pack_2 rfl (lv_at hl 0 rfl) ?_
  refine lv_iconst (v := 4) hx hb dX7_pack_3 (by decide) ?_
  refine lv_icmp_ge (tgt := 23) hx hb dX7_pack_4 (by decide) (fun c_2 => absurd c_2 (by decide)) (fun c_2 => ?_)
  refine lv_aload_n hx hb dX7_pack_7 rfl (lv_at hl 2 rfl) ?_
  refine lv_iload_n hx hb dX7_pack_8 rfl (lv_at hl 3 rfl) ?_
  refine lv_iload_n hx hb dX7_pack_9 rfl (lv_at hl 0 rfl) ?_
  refine lv_iadd hx hb dX7_pack_10 ?_
  refine kr_topi (y := nI (az + 1)) (nI_add az 1) ?_
  refine lv_aload_n hx hb dX7_pack_11 rfl (lv_at hl 1 rfl) ?_
  refine lv_iload_n hx hb dX7_pack_12 rfl (lv_at hl 0 rfl) ?_
  refine kr_callVl (As := [.int 1]) (rest := [.int (nI (az + 1)), .ref (ad (tc))]) ⟨hx, hb, hml, hown, hts⟩ (c_oTpack l D gc ad ln iv (up2L lv tc (az + 0) (r_oTpack iv lv 0)) 1 (by decide)) (cwV 1 hts (goodV (fun _ h => tcons h) tw_568 tw_570 ts_26 tw_8 tw_571) rfl rfl rfl (by decide +kernel) ⟨Nat.le_of_ble_eq_true rfl, Nat.le_of_ble_eq_true rfl⟩) (kr_recv hK hP 0 (by decide) (R_0 _ _ _ _) rfl) hK hP hD hS hA rfl hl.1 rfl (Nat.le_of_ble_eq_true rfl) dX7_pack_13 ⟨Nat.le_of_ble_eq_true rfl, Nat.le_of_ble_eq_true rfl⟩ (fun H locs hP hD hS => ?_)
  refine kr_lastN hx hb hK hP hD hS tc 2 (by omega) (fun _ => R_la htc _ _ _ _) rfl (j := (az + 1)) (by omega) (lenL_lt tc) dX7_pack_16 (fun H locs hP hD hS => ?_)
  refine lv_iinc (v := 2) (lv' := [(3, .int 2), (0, .ref (ad 0)), (1, .ref (ad (tc))), (2, .int (nI az))]) hx hb dX7_pack_17 hl (k := 0) rfl (by decide) (by decide) rfl (fun ls hl => ?_)
  refine lv_goto (tgt := 2) hx hb dX7_pack_20 (by decide) ?_
  refine lv_iload_n hx hb dX7_pack_2 rfl (lv_at hl 0 rfl) ?_
  refine lv_iconst (v := 4) hx hb dX7_pack_3 (by decide) ?_
  refine lv_icmp_ge (tgt := 23) hx hb dX7_pack_4 (by decide) (fun c_3 => absurd c_3 (by decide)) (fun c_3 => ?_)
  refine lv_aload_n hx hb dX7_pack_7 rfl (lv_at hl 2 rfl) ?_
  refine lv_iload_n hx hb dX7_pack_8 rfl (lv_at hl 3 rfl) ?_
  refine lv_iload_n hx hb dX7_pack_9 rfl (lv_at hl 0 rfl) ?_
  refine lv_iadd hx hb dX7_pack_10 ?_
  refine kr_topi (y := nI (az + 2)) (nI_add az 2) ?_
  refine lv_aload_n hx hb dX7_pack_11 rfl (lv_at hl 1 rfl) ?_
  refine lv_iload_n hx hb dX7_pack_12 rfl (lv_at hl 0 rfl) ?_
  refine kr_callVl (As := [.int 2]) (rest := [.int (nI (az + 2)), .ref (ad (tc))]) ⟨hx, hb, hml, hown, hts⟩ (c_oTpack l D gc ad ln iv (up2L (up2L lv tc (az + 0) (r_oTpack iv lv 0)) tc (az + 1) (r_oTpack iv (up2L lv tc (az + 0) (r_oTpack iv lv 0)) 1)) 2 (by decide)) (cwV 1 hts (goodV (fun _ h => tcons h) tw_568 tw_570 ts_26 tw_8 tw_571) rfl rfl rfl (by decide +kernel) ⟨Nat.le_of_ble_eq_true rfl, Nat.le_of_ble_eq_true rfl⟩) (kr_recv hK hP 0 (by decide) (R_0 _ _ _ _) rfl) hK hP hD hS hA rfl hl.1 rfl (Nat.le_of_ble_eq_true rfl) dX7_pack_13 ⟨Nat.le_of_ble_eq_true rfl, Nat.le_of_ble_eq_true rfl⟩ (fun H locs hP hD hS => ?_)
  refine kr_lastN hx hb hK hP hD hS tc 2 (by omega) (fun _ => R_la htc _ _ _ _) rfl (j := (az + 2)) (by omega) (lenL_lt tc) dX7_pack_16 (fun H locs hP hD hS => ?_)
  refine lv_iinc (v := 3) (lv' := [(3, .int 3), (0, .ref (ad 0)), (1, .ref (ad (tc))), (2, .int (nI az))]) hx hb dX7_pack_17 hl (k := 0) rfl (by decide) (by decide) rfl (fun ls hl => ?_)
  refine lv_goto (tgt := 2) hx hb dX7_pack_20 (by decide) ?_
  refine lv_iload_n hx hb dX7_pack_2 rfl (lv_at hl 0 rfl) ?_
  refine lv_iconst (v := 4) hx hb dX7_pack_3 (by decide) ?_
  refine lv_icmp_ge (tgt := 23) hx hb dX7_pack_4 (by decide) (fun c_4 => absurd c_4 (by decide)) (fun c_4 => ?_)
  refine lv_aload_n hx hb dX7_pack_7 rfl (lv_at hl 2 rfl) ?_
  refine lv_iload_n hx hb dX7_pack_8 rfl (lv_at hl 3 rfl) ?_
  refine lv_iload_n hx hb dX7_pack_9 rfl (lv_at hl 0 rfl) ?_
  refine lv_iadd hx hb dX7_pack_10 ?_
  refine kr_topi (y := nI (az + 3)) (nI_add az 3) ?_
  refine lv_aload_n hx hb dX7_pack_11 rfl (lv_at hl 1 rfl) ?_
  refine lv_iload_n hx hb dX7_pack_12 rfl (lv_at hl 0 rfl) ?_
  refine kr_callVl (As := [.int 3]) (rest := [.int (nI (az + 3)), .ref (ad (tc))]) ⟨hx, hb, hml, hown, hts⟩ (c_oTpack l D gc ad ln iv (up2L (up2L (up2L lv tc (az + 0) (r_oTpack iv lv 0)) tc (az + 1) (r_oTpack iv (up2L lv tc (az + 0) (r_oTpack iv lv 0)) 1)) tc (az + 2) (r_oTpack iv (up2L (up2L lv tc (az + 0) (r_oTpack iv lv 0)) tc (az + 1) (r_oTpack iv (up2L lv tc (az + 0) (r_oTpack iv lv 0)) 1)) 2)) 3 (by decide)) (cwV 1 hts (goodV (fun _ h => tcons h) tw_568 tw_570 ts_26 tw_8 tw_571) rfl rfl rfl (by decide +kernel) ⟨Nat.le_of_ble_eq_true rfl, Nat.le_of_ble_eq_true rfl⟩) (kr_recv hK hP 0 (by decide) (R_0 _ _ _ _) rfl) hK hP hD hS hA rfl hl.1 rfl (Nat.le_of_ble_eq_true rfl) dX7_pack_13 ⟨Nat.le_of_ble_eq_true rfl, Nat.le_of_ble_eq_true rfl⟩ (fun H locs hP hD hS => ?_)
  refine kr_lastN hx hb hK hP hD hS tc 2 (by omega) (fun _ => R_la htc _ _ _ _) rfl (j := (az + 3)) (by omega) (lenL_lt tc) dX7_pack_16 (fun H locs hP hD hS => ?_)
  refine lv_iinc (v := 4) (lv' := [(3, .int 4), (0, .ref (ad 0)), (1, .ref (ad (tc))), (2, .int (nI az))]) hx hb dX7_pack_17 hl (k := 0) rfl (by decide) (by decide) rfl (fun ls hl => ?_)
  refine lv_goto (tgt := 2) hx hb dX7_pack_20 (by decide) ?_
  refine lv_iload_n hx hb dX7_pack_2 rfl (lv_at hl 0 rfl) ?_
  refine lv_iconst (v := 4) hx hb dX7_pack_3 (by decide) ?_
  refine lv_icmp_ge (tgt := 23) hx hb dX7_pack_4 (by decide) (fun c_5 => ?_) (fun c_5 => absurd (by decide) c_5)
  refine lv_lconst (v := 0) hx hb dX7_pack_23 (by decide) ?_
  refine lv_lstore_n (lv' := [(3, .long 0), (0, .ref (ad 0)), (1, .ref (ad (tc))), (2, .int (nI az))]) hx hb dX7_pack_24 rfl hl (by decide) rfl (fun ls hl => ?_)
  refine lv_iconst (v := 0) hx hb dX7_pack_25 (by decide) ?_
  refine lv_istore (lv' := [(5, .int 0), (3, .long 0), (0, .ref (ad 0)), (1, .ref (ad (tc))), (2, .int (nI az))]) hx hb dX7_pack_26 hl (by decide) rfl (fun ls hl => ?_)
  refine lv_iload hx hb dX7_pack_28 (lv_at hl 0 rfl) ?_
  refine lv_iconst (v := 2) hx hb dX7_pack_30 (by decide) ?_
  refine lv_icmp_ge (tgt := 136) hx hb dX7_pack_31 (by decide) (fun c_6 => absurd c_6 (by decide)) (fun c_6 => ?_)
  refine lv_lload_n hx hb dX7_pack_34 rfl (lv_at hl 1 rfl) ?_
  refine lv_ldc2 (v := 8) hx hb hown lk_c77 dX7_pack_35 ?_
  refine lv_lmul hx hb dX7_pack_38 ?_
  refine lv_aload_n hx hb dX7_pack_39 rfl (lv_at hl 2 rfl) ?_
  refine kr_get (C := "MonitorWaysModel") (T := TX7) (N := 27) hx hb hts hin_X7 hown hK hP 0 (by decide) (R_0 _ _ _ _) rfl 12 (by decide) lk_f45 (fun _ h9 => h9) rfl dX7_pack_40 ?_
  refine lv_iload hx hb dX7_pack_43 (lv_at hl 0 rfl) ?_
  refine kr_ialdN hx hb hK hP 12 0 (by decide) (R_12 _ _ _ _) rfl (j := 0) (by decide) (by decide) dX7_pack_45 ?_
  refine lv_i2l hx hb dX7_pack_46 rfl ?_
  refine lv_ladd hx hb dX7_pack_47 ?_
  refine lv_lconst (v := 1) hx hb dX7_pack_48 (by decide) ?_
  refine lv_ladd hx hb dX7_pack_49 ?_
  refine lv_ldc2 (v := 8) hx hb hown lk_c77 dX7_pack_50 ?_
  refine lv_lmul hx hb dX7_pack_53 ?_
  refine lv_aload_n hx hb dX7_pack_54 rfl (lv_at hl 2 rfl) ?_
  refine kr_get (C := "MonitorWaysModel") (T := TX7) (N := 27) hx hb hts hin_X7 hown hK hP 0 (by decide) (R_0 _ _ _ _) rfl 13 (by decide) lk_f48 (fun _ h9 => h9) rfl dX7_pack_55 ?_
  refine lv_iload hx hb dX7_pack_58 (lv_at hl 0 rfl) ?_
  refine kr_ialdN hx hb hK hP 13 0 (by decide) (R_13 _ _ _ _) rfl (j := 0) (by decide) (by decide) dX7_pack_60 ?_
  refine lv_i2l hx hb dX7_pack_61 rfl ?_
  refine lv_ladd hx hb dX7_pack_62 ?_
  refine lv_lstore_n (lv' := [(3, .long (((((0 * 8) + ((iv 12 0).toInt64)) + 1) * 8) + ((iv 13 0).toInt64))), (5, .int 0), (0, .ref (ad 0)), (1, .ref (ad (tc))), (2, .int (nI az))]) hx hb dX7_pack_63 rfl hl (by decide) rfl (fun ls hl => ?_)
  refine lv_lload_n hx hb dX7_pack_64 rfl (lv_at hl 0 rfl) ?_
  refine lv_ldc2 (v := 8) hx hb hown lk_c77 dX7_pack_65 ?_
  refine lv_lmul hx hb dX7_pack_68 ?_
  refine lv_aload_n hx hb dX7_pack_69 rfl (lv_at hl 2 rfl) ?_
  refine kr_get (C := "MonitorWaysModel") (T := TX7) (N := 27) hx hb hts hin_X7 hown hK hP 0 (by decide) (R_0 _ _ _ _) rfl 14 (by decide) lk_f51 (fun _ h9 => h9) rfl dX7_pack_70 ?_
  refine lv_iload hx hb dX7_pack_73 (lv_at hl 1 rfl) ?_
  refine kr_ialdN hx hb hK hP 14 0 (by decide) (R_14 _ _ _ _) rfl (j := 0) (by decide) (by decide) dX7_pack_75 ?_
  refine lv_i2l hx hb dX7_pack_76 rfl ?_
  refine lv_ladd hx hb dX7_pack_77 ?_
  refine lv_lstore_n (lv' := [(3, .long (((((((0 * 8) + ((iv 12 0).toInt64)) + 1) * 8) + ((iv 13 0).toInt64)) * 8) + ((iv 14 0).toInt64))), (5, .int 0), (0, .ref (ad 0)), (1, .ref (ad (tc))), (2, .int (nI az))]) hx hb dX7_pack_78 rfl hl (by decide) rfl (fun ls hl => ?_)
  refine lv_iconst (v := 0) hx hb dX7_pack_79 (by decide) ?_
  refine lv_istore (lv' := [(6, .int 0), (3, .long (((((((0 * 8) + ((iv 12 0).toInt64)) + 1) * 8) + ((iv 13 0).toInt64)) * 8) + ((iv 14 0).toInt64))), (5, .int 0), (0, .ref (ad 0)), (1, .ref (ad (tc))), (2, .int (nI az))]) hx hb dX7_pack_80 hl (by decide) rfl (fun ls hl => ?_)
  refine lv_iload hx hb dX7_pack_82 (lv_at hl 0 rfl) ?_
  refine lv_iconst (v := 4) hx hb dX7_pack_84 (by decide) ?_
  refine lv_icmp_ge (tgt := 130) hx hb dX7_pack_85 (by decide) (fun c_7 => absurd c_7 (by decide)) (fun c_7 => ?_)
  refine lv_lload_n hx hb dX7_pack_88 rfl (lv_at hl 1 rfl) ?_
  refine lv_ldc2 (v := 4) hx hb hown lk_c81 dX7_pack_89 ?_
  refine lv_lmul hx hb dX7_pack_92 ?_
  refine lv_iload hx hb dX7_pack_93 (lv_at hl 0 rfl) ?_
  refine lv_aload_n hx hb dX7_pack_95 rfl (lv_at hl 3 rfl) ?_
  refine kr_get (C := "MonitorWaysModel") (T := TX7) (N := 27) hx hb hts hin_X7 hown hK hP 0 (by decide) (R_0 _ _ _ _) rfl 14 (by decide) lk_f51 (fun _ h9 => h9) rfl dX7_pack_96 ?_
  refine lv_iload hx hb dX7_pack_99 (lv_at hl 2 rfl) ?_
  refine kr_ialdN hx hb hK hP 14 0 (by decide) (R_14 _ _ _ _) rfl (j := 0) (by decide) (by decide) dX7_pack_101 ?_
  refine kr_tern (M := 121) (cnd := iv 14 0 ≤ 0) (a := 0) (b := iv 15 0) (rest := [.long ((((((((0 * 8) + ((iv 12 0).toInt64)) + 1) * 8) + ((iv 13 0).toInt64)) * 8) + ((iv 14 0).toInt64)) * 4)]) (fun ja jb => ?_) ?_
  · refine lv_icmp_ge (tgt := 120) hx hb dX7_pack_102 (by decide) (fun c_8 => ?_) (fun c_8 => ?_)
    · refine lv_iconst (v := 0) hx hb dX7_pack_120 (by decide) ?_
      exact ja c_8
    · refine lv_aload_n hx hb dX7_pack_105 rfl (lv_at hl 3 rfl) ?_
      refine kr_get (C := "MonitorWaysModel") (T := TX7) (N := 27) hx hb hts hin_X7 hown hK hP 0 (by decide) (R_0 _ _ _ _) rfl 15 (by decide) lk_f54 (fun _ h9 => h9) rfl dX7_pack_106 ?_
      refine lv_iconst (v := 4) hx hb dX7_pack_109 (by decide) ?_
      refine lv_iload hx hb dX7_pack_110 (lv_at hl 2 rfl) ?_
      refine lv_imul hx hb dX7_pack_112 ?_
      refine kr_topi (y := 0) (by decide) ?_
      refine lv_iload hx hb dX7_pack_113 (lv_at hl 0 rfl) ?_
      refine lv_iadd hx hb dX7_pack_115 ?_
      refine kr_topi (y := 0) (by decide) ?_
      refine kr_ialdN hx hb hK hP 15 0 (by decide) (R_15 _ _ _ _) rfl (j := 0) (by decide) (by decide) dX7_pack_116 ?_
      refine lv_goto (tgt := 121) hx hb dX7_pack_117 (by decide) ?_
      exact jb c_8
  refine lv_i2l hx hb dX7_pack_121 rfl ?_
  refine lv_ladd hx hb dX7_pack_122 ?_
  refine lv_lstore_n (lv' := [(3, .long (((((((((0 * 8) + ((iv 12 0).toInt64)) + 1) * 8) + ((iv 13 0).toInt64)) * 8) + ((iv 14 0).toInt64)) * 4) + ((if iv 14 0 ≤ 0 then (0 : Int32) else iv 15 0).toInt64))), (6, .int 0), (5, .int 0), (0, .ref (ad 0)), (1, .ref (ad (tc))), (2, .int (nI az))]) hx hb dX7_pack_123 rfl hl (by decide) rfl (fun ls hl => ?_)
  refine lv_iinc (v := 1) (lv' := [(6, .int 1), (3, .long (((((((((0 * 8) + ((iv 12 0).toInt64)) + 1) * 8) + ((iv 13 0).toInt64)) * 8) + ((iv 14 0).toInt64)) * 4) + ((if iv 14 0 ≤ 0 then (0 : Int32) else iv 15 0).toInt64))), (5, .int 0), (0, .ref (ad 0)), (1, .ref (ad (tc))), (2, .int (nI az))]) hx hb dX7_pack_124 hl (k := 1) rfl (by decide) (by decide) rfl (fun ls hl => ?_)
  refine lv_goto (tgt := 82) hx hb dX7_pack_127 (by decide) ?_
  refine lv_iload hx hb dX7_pack_82 (lv_at hl 0 rfl) ?_
  refine lv_iconst (v := 4) hx hb dX7_pack_84 (by decide) ?_
  refine lv_icmp_ge (tgt := 130) hx hb dX7_pack_85 (by decide) (fun c_9 => absurd c_9 (by decide)) (fun c_9 => ?_)
  refine lv_lload_n hx hb dX7_pack_88 rfl (lv_at hl 1 rfl) ?_
  refine lv_ldc2 (v := 4) hx hb hown lk_c81 dX7_pack_89 ?_
  refine lv_lmul hx hb dX7_pack_92 ?_
  refine lv_iload hx hb dX7_pack_93 (lv_at hl 0 rfl) ?_
  refine lv_aload_n hx hb dX7_pack_95 rfl (lv_at hl 3 rfl) ?_
  refine kr_get (C := "MonitorWaysModel") (T := TX7) (N := 27) hx hb hts hin_X7 hown hK hP 0 (by decide) (R_0 _ _ _ _) rfl 14 (by decide) lk_f51 (fun _ h9 => h9) rfl dX7_pack_96 ?_
  refine lv_iload hx hb dX7_pack_99 (lv_at hl 2 rfl) ?_
  refine kr_ialdN hx hb hK hP 14 0 (by decide) (R_14 _ _ _ _) rfl (j := 0) (by decide) (by decide) dX7_pack_101 ?_
  refine kr_tern (M := 121) (cnd := iv 14 0 ≤ 1) (a := 0) (b := iv 15 1) (rest := [.long ((((((((((0 * 8) + ((iv 12 0).toInt64)) + 1) * 8) + ((iv 13 0).toInt64)) * 8) + ((iv 14 0).toInt64)) * 4) + ((if iv 14 0 ≤ 0 then (0 : Int32) else iv 15 0).toInt64)) * 4)]) (fun ja jb => ?_) ?_
  · refine lv_icmp_ge (tgt := 120) hx hb dX7_pack_102 (by decide) (fun c_10 => ?_) (fun c_10 => ?_)
    · refine lv_iconst (v := 0) hx hb dX7_pack_120 (by decide) ?_
      exact ja c_10
    · refine lv_aload_n hx hb dX7_pack_105 rfl (lv_at hl 3 rfl) ?_
      refine kr_get (C := "MonitorWaysModel") (T := TX7) (N := 27) hx hb hts hin_X7 hown hK hP 0 (by decide) (R_0 _ _ _ _) rfl 15 (by decide) lk_f54 (fun _ h9 => h9) rfl dX7_pack_106 ?_
      refine lv_iconst (v := 4) hx hb dX7_pack_109 (by decide) ?_
      refine lv_iload hx hb dX7_pack_110 (lv_at hl 2 rfl) ?_
      refine lv_imul hx hb dX7_pack_112 ?_
      refine kr_topi (y := 0) (by decide) ?_
      refine lv_iload hx hb dX7_pack_113 (lv_at hl 0 rfl) ?_
      refine lv_iadd hx hb dX7_pack_115 ?_
      refine kr_topi (y := 1) (by decide) ?_
      refine kr_ialdN hx hb hK hP 15 0 (by decide) (R_15 _ _ _ _) rfl (j := 1) (by decide) (by decide) dX7_pack_116 ?_
      refine lv_goto (tgt := 121) hx hb dX7_pack_117 (by decide) ?_
      exact jb c_10
  refine lv_i2l hx hb dX7_pack_121 rfl ?_
  refine lv_ladd hx hb dX7_pack_122 ?_
  refine lv_lstore_n (lv' := [(3, .long (((((((((((0 * 8) + ((iv 12 0).toInt64)) + 1) * 8) + ((iv 13 0).toInt64)) * 8) + ((iv 14 0).toInt64)) * 4) + ((if iv 14 0 ≤ 0 then (0 : Int32) else iv 15 0).toInt64)) * 4) + ((if iv 14 0 ≤ 1 then (0 : Int32) else iv 15 1).toInt64))), (6, .int 1), (5, .int 0), (0, .ref (ad 0)), (1, .ref (ad (tc))), (2, .int (nI az))]) hx hb dX7_pack_123 rfl hl (by decide) rfl (fun ls hl => ?_)
  refine lv_iinc (v := 2) (lv' := [(6, .int 2), (3, .long (((((((((((0 * 8) + ((iv 12 0).toInt64)) + 1) * 8) + ((iv 13 0).toInt64)) * 8) + ((iv 14 0).toInt64)) * 4) + ((if iv 14 0 ≤ 0 then (0 : Int32) else iv 15 0).toInt64)) * 4) + ((if iv 14 0 ≤ 1 then (0 : Int32) else iv 15 1).toInt64))), (5, .int 0), (0, .ref (ad 0)), (1, .ref (ad (tc))), (2, .int (nI az))]) hx hb dX7_pack_124 hl (k := 1) rfl (by decide) (by decide) rfl (fun ls hl => ?_)
  refine lv_goto (tgt := 82) hx hb dX7_pack_127 (by decide) ?_
  refine lv_iload hx hb dX7_pack_82 (lv_at hl 0 rfl) ?_
  refine lv_iconst (v := 4) hx hb dX7_pack_84 (by decide) ?_
  refine lv_icmp_ge (tgt := 130) hx hb dX7_pack_85 (by decide) (fun c_11 => absurd c_11 (by decide)) (fun c_11 => ?_)
  refine lv_lload_n hx hb dX7_pack_88 rfl (lv_at hl 1 rfl) ?_
  refine lv_ldc2 (v := 4) hx hb hown lk_c81 dX7_pack_89 ?_
  refine lv_lmul hx hb dX7_pack_92 ?_
  refine lv_iload hx hb dX7_pack_93 (lv_at hl 0 rfl) ?_
  refine lv_aload_n hx hb dX7_pack_95 rfl (lv_at hl 3 rfl) ?_
  refine kr_get (C := "MonitorWaysModel") (T := TX7) (N := 27) hx hb hts hin_X7 hown hK hP 0 (by decide) (R_0 _ _ _ _) rfl 14 (by decide) lk_f51 (fun _ h9 => h9) rfl dX7_pack_96 ?_
  refine lv_iload hx hb dX7_pack_99 (lv_at hl 2 rfl) ?_
  refine kr_ialdN hx hb hK hP 14 0 (by decide) (R_14 _ _ _ _) rfl (j := 0) (by decide) (by decide) dX7_pack_101 ?_
  refine kr_tern (M := 121) (cnd := iv 14 0 ≤ 2) (a := 0) (b := iv 15 2) (rest := [.long ((((((((((((0 * 8) + ((iv 12 0).toInt64)) + 1) * 8) + ((iv 13 0).toInt64)) * 8) + ((iv 14 0).toInt64)) * 4) + ((if iv 14 0 ≤ 0 then (0 : Int32) else iv 15 0).toInt64)) * 4) + ((if iv 14 0 ≤ 1 then (0 : Int32) else iv 15 1).toInt64)) * 4)]) (fun ja jb => ?_) ?_
  · refine lv_icmp_ge (tgt := 120) hx hb dX7_pack_102 (by decide) (fun c_12 => ?_) (fun c_12 => ?_)
    · refine lv_iconst (v := 0) hx hb dX7_pack_120 (by decide) ?_
      exact ja c_12
    · refine lv_aload_n hx hb dX7_pack_105 rfl (lv_at hl 3 rfl) ?_
      refine kr_get (C := "MonitorWaysModel") (T := TX7) (N := 27) hx hb hts hin_X7 hown hK hP 0 (by decide) (R_0 _ _ _ _) rfl 15 (by decide) lk_f54 (fun _ h9 => h9) rfl dX7_pack_106 ?_
      refine lv_iconst (v := 4) hx hb dX7_pack_109 (by decide) ?_
      refine lv_iload hx hb dX7_pack_110 (lv_at hl 2 rfl) ?_
      refine lv_imul hx hb dX7_pack_112 ?_
      refine kr_topi (y := 0) (by decide) ?_
      refine lv_iload hx hb dX7_pack_113 (lv_at hl 0 rfl) ?_
      refine lv_iadd hx hb dX7_pack_115 ?_
      refine kr_topi (y := 2) (by decide) ?_
      refine kr_ialdN hx hb hK hP 15 0 (by decide) (R_15 _ _ _ _) rfl (j := 2) (by decide) (by decide) dX7_pack_116 ?_
      refine lv_goto (tgt := 121) hx hb dX7_pack_117 (by decide) ?_
      exact jb c_12
  refine lv_i2l hx hb dX7_pack_121 rfl ?_
  refine lv_ladd hx hb dX7_pack_122 ?_
  refine lv_lstore_n (lv' := [(3, .long (((((((((((((0 * 8) + ((iv 12 0).toInt64)) + 1) * 8) + ((iv 13 0).toInt64)) * 8) + ((iv 14 0).toInt64)) * 4) + ((if iv 14 0 ≤ 0 then (0 : Int32) else iv 15 0).toInt64)) * 4) + ((if iv 14 0 ≤ 1 then (0 : Int32) else iv 15 1).toInt64)) * 4) + ((if iv 14 0 ≤ 2 then (0 : Int32) else iv 15 2).toInt64))), (6, .int 2), (5, .int 0), (0, .ref (ad 0)), (1, .ref (ad (tc))), (2, .int (nI az))]) hx hb dX7_pack_123 rfl hl (by decide) rfl (fun ls hl => ?_)
  refine lv_iinc (v := 3) (lv' := [(6, .int 3), (3, .long (((((((((((((0 * 8) + ((iv 12 0).toInt64)) + 1) * 8) + ((iv 13 0).toInt64)) * 8) + ((iv 14 0).toInt64)) * 4) + ((if iv 14 0 ≤ 0 then (0 : Int32) else iv 15 0).toInt64)) * 4) + ((if iv 14 0 ≤ 1 then (0 : Int32) else iv 15 1).toInt64)) * 4) + ((if iv 14 0 ≤ 2 then (0 : Int32) else iv 15 2).toInt64))), (5, .int 0), (0, .ref (ad 0)), (1, .ref (ad (tc))), (2, .int (nI az))]) hx hb dX7_pack_124 hl (k := 1) rfl (by decide) (by decide) rfl (fun ls hl => ?_)
  refine lv_goto (tgt := 82) hx hb dX7_pack_127 (by decide) ?_
  refine lv_iload hx hb dX7_pack_82 (lv_at hl 0 rfl) ?_
  refine lv_iconst (v := 4) hx hb dX7_pack_84 (by decide) ?_
  refine lv_icmp_ge (tgt := 130) hx hb dX7_pack_85 (by decide) (fun c_13 => absurd c_13 (by decide)) (fun c_13 => ?_)
  refine lv_lload_n hx hb dX7_pack_88 rfl (lv_at hl 1 rfl) ?_
  refine lv_ldc2 (v := 4) hx hb hown lk_c81 dX7_pack_89 ?_
  refine lv_lmul hx hb dX7_pack_92 ?_
  refine lv_iload hx hb dX7_pack_93 (lv_at hl 0 rfl) ?_
  refine lv_aload_n hx hb dX7_pack_95 rfl (lv_at hl 3 rfl) ?_
  refine kr_get (C := "MonitorWaysModel") (T := TX7) (N := 27) hx hb hts hin_X7 hown hK hP 0 (by decide) (R_0 _ _ _ _) rfl 14 (by decide) lk_f51 (fun _ h9 => h9) rfl dX7_pack_96 ?_
  refine lv_iload hx hb dX7_pack_99 (lv_at hl 2 rfl) ?_
  refine kr_ialdN hx hb hK hP 14 0 (by decide) (R_14 _ _ _ _) rfl (j := 0) (by decide) (by decide) dX7_pack_101 ?_
  refine kr_tern (M := 121) (cnd := iv 14 0 ≤ 3) (a := 0) (b := iv 15 3) (rest := [.long ((((((((((((((0 * 8) + ((iv 12 0).toInt64)) + 1) * 8) + ((iv 13 0).toInt64)) * 8) + ((iv 14 0).toInt64)) * 4) + ((if iv 14 0 ≤ 0 then (0 : Int32) else iv 15 0).toInt64)) * 4) + ((if iv 14 0 ≤ 1 then (0 : Int32) else iv 15 1).toInt64)) * 4) + ((if iv 14 0 ≤ 2 then (0 : Int32) else iv 15 2).toInt64)) * 4)]) (fun ja jb => ?_) ?_
  · refine lv_icmp_ge (tgt := 120) hx hb dX7_pack_102 (by decide) (fun c_14 => ?_) (fun c_14 => ?_)
    · refine lv_iconst (v := 0) hx hb dX7_pack_120 (by decide) ?_
      exact ja c_14
    · refine lv_aload_n hx hb dX7_pack_105 rfl (lv_at hl 3 rfl) ?_
      refine kr_get (C := "MonitorWaysModel") (T := TX7) (N := 27) hx hb hts hin_X7 hown hK hP 0 (by decide) (R_0 _ _ _ _) rfl 15 (by decide) lk_f54 (fun _ h9 => h9) rfl dX7_pack_106 ?_
      refine lv_iconst (v := 4) hx hb dX7_pack_109 (by decide) ?_
      refine lv_iload hx hb dX7_pack_110 (lv_at hl 2 rfl) ?_
      refine lv_imul hx hb dX7_pack_112 ?_
      refine kr_topi (y := 0) (by decide) ?_
      refine lv_iload hx hb dX7_pack_113 (lv_at hl 0 rfl) ?_
      refine lv_iadd hx hb dX7_pack_115 ?_
      refine kr_topi (y := 3) (by decide) ?_
      refine kr_ialdN hx hb hK hP 15 0 (by decide) (R_15 _ _ _ _) rfl (j := 3) (by decide) (by decide) dX7_pack_116 ?_
      refine lv_goto (tgt := 121) hx hb dX7_pack_117 (by decide) ?_
      exact jb c_14
  refine lv_i2l hx hb dX7_pack_121 rfl ?_
  refine lv_ladd hx hb dX7_pack_122 ?_
  refine lv_lstore_n (lv' := [(3, .long (((((((((((((((0 * 8) + ((iv 12 0).toInt64)) + 1) * 8) + ((iv 13 0).toInt64)) * 8) + ((iv 14 0).toInt64)) * 4) + ((if iv 14 0 ≤ 0 then (0 : Int32) else iv 15 0).toInt64)) * 4) + ((if iv 14 0 ≤ 1 then (0 : Int32) else iv 15 1).toInt64)) * 4) + ((if iv 14 0 ≤ 2 then (0 : Int32) else iv 15 2).toInt64)) * 4) + ((if iv 14 0 ≤ 3 then (0 : Int32) else iv 15 3).toInt64))), (6, .int 3), (5, .int 0), (0, .ref (ad 0)), (1, .ref (ad (tc))), (2, .int (nI az))]) hx hb dX7_pack_123 rfl hl (by decide) rfl (fun ls hl => ?_)
  refine lv_iinc (v := 4) (lv' := [(6, .int 4), (3, .long (((((((((((((((0 * 8) + ((iv 12 0).toInt64)) + 1) * 8) + ((iv 13 0).toInt64)) * 8) + ((iv 14 0).toInt64)) * 4) + ((if iv 14 0 ≤ 0 then (0 : Int32) else iv 15 0).toInt64)) * 4) + ((if iv 14 0 ≤ 1 then (0 : Int32) else iv 15 1).toInt64)) * 4) + ((if iv 14 0 ≤ 2 then (0 : Int32) else iv 15 2).toInt64)) * 4) + ((if iv 14 0 ≤ 3 then (0 : Int32) else iv 15 3).toInt64))), (5, .int 0), (0, .ref (ad 0)), (1, .ref (ad (tc))), (2, .int (nI az))]) hx hb dX7_pack_124 hl (k := 1) rfl (by decide) (by decide) rfl (fun ls hl => ?_)
  refine lv_goto (tgt := 82) hx hb dX7_pack_127 (by decide) ?_
  refine lv_iload hx hb dX7_pack_82 (lv_at hl 0 rfl) ?_
  refine lv_iconst (v := 4) hx hb dX7_pack_84 (by decide) ?_
  refine lv_icmp_ge (tgt := 130) hx hb dX7_pack_85 (by decide) (fun c_15 => ?_) (fun c_15 => absurd (by decide) c_15)
  refine lv_iinc (v := 1) (lv' := [(5, .int 1), (6, .int 4), (3, .long (((((((((((((((0 * 8) + ((iv 12 0).toInt64)) + 1) * 8) + ((iv 13 0).toInt64)) * 8) + ((iv 14 0).toInt64)) * 4) + ((if iv 14 0 ≤ 0 then (0 : Int32) else iv 15 0).toInt64)) * 4) + ((if iv 14 0 ≤ 1 then (0 : Int32) else iv 15 1).toInt64)) * 4) + ((if iv 14 0 ≤ 2 then (0 : Int32) else iv 15 2).toInt64)) * 4) + ((if iv 14 0 ≤ 3 then (0 : Int32) else iv 15 3).toInt64))), (0, .ref (ad 0)), (1, .ref (ad (tc))), (2, .int (nI az))]) hx hb dX7_pack_130 hl (k := 2) rfl (by decide) (by decide) rfl (fun ls hl => ?_)
  refine lv_goto (tgt := 28) hx hb dX7_pack_133 (by decide) ?_
  refine lv_iload hx hb dX7_pack_28 (lv_at hl 0 rfl) ?_
  refine lv_iconst (v := 2) hx hb dX7_pack_30 (by decide) ?_
  refine lv_icmp_ge (tgt := 136) hx hb dX7_pack_31 (by decide) (fun c_16 => absurd c_16 (by decide)) (fun c_16 => ?_)
  refine lv_lload_n hx hb dX7_pack_34 rfl (lv_at hl 2 rfl) ?_
  refine lv_ldc2 (v := 8) hx hb hown lk_c77 dX7_pack_35 ?_
  refine lv_lmul hx hb dX7_pack_38 ?_
  refine lv_aload_n hx hb dX7_pack_39 rfl (lv_at hl 3 rfl) ?_
  refine kr_get (C := "MonitorWaysModel") (T := TX7) (N := 27) hx hb hts hin_X7 hown hK hP 0 (by decide) (R_0 _ _ _ _) rfl 12 (by decide) lk_f45 (fun _ h9 => h9) rfl dX7_pack_40 ?_
  refine lv_iload hx hb dX7_pack_43 (lv_at hl 0 rfl) ?_
  refine kr_ialdN hx hb hK hP 12 0 (by decide) (R_12 _ _ _ _) rfl (j := 1) (by decide) (by decide) dX7_pack_45 ?_
  refine lv_i2l hx hb dX7_pack_46 rfl ?_
  refine lv_ladd hx hb dX7_pack_47 ?_
  refine lv_lconst (v := 1) hx hb dX7_pack_48 (by decide) ?_
  refine lv_ladd hx hb dX7_pack_49 ?_
  refine lv_ldc2 (v := 8) hx hb hown lk_c77 dX7_pack_50 ?_
  refine lv_lmul hx hb dX7_pack_53 ?_
  refine lv_aload_n hx hb dX7_pack_54 rfl (lv_at hl 3 rfl) ?_
  refine kr_get (C := "MonitorWaysModel") (T := TX7) (N := 27) hx hb hts hin_X7 hown hK hP 0 (by decide) (R_0 _ _ _ _) rfl 13 (by decide) lk_f48 (fun _ h9 => h9) rfl dX7_pack_55 ?_
  refine lv_iload hx hb dX7_pack_58 (lv_at hl 0 rfl) ?_
  refine kr_ialdN hx hb hK hP 13 0 (by decide) (R_13 _ _ _ _) rfl (j := 1) (by decide) (by decide) dX7_pack_60 ?_
  refine lv_i2l hx hb dX7_pack_61 rfl ?_
  refine lv_ladd hx hb dX7_pack_62 ?_
  refine lv_lstore_n (lv' := [(3, .long ((((((((((((((((((((0 * 8) + ((iv 12 0).toInt64)) + 1) * 8) + ((iv 13 0).toInt64)) * 8) + ((iv 14 0).toInt64)) * 4) + ((if iv 14 0 ≤ 0 then (0 : Int32) else iv 15 0).toInt64)) * 4) + ((if iv 14 0 ≤ 1 then (0 : Int32) else iv 15 1).toInt64)) * 4) + ((if iv 14 0 ≤ 2 then (0 : Int32) else iv 15 2).toInt64)) * 4) + ((if iv 14 0 ≤ 3 then (0 : Int32) else iv 15 3).toInt64)) * 8) + ((iv 12 1).toInt64)) + 1) * 8) + ((iv 13 1).toInt64))), (5, .int 1), (6, .int 4), (0, .ref (ad 0)), (1, .ref (ad (tc))), (2, .int (nI az))]) hx hb dX7_pack_63 rfl hl (by decide) rfl (fun ls hl => ?_)
  refine lv_lload_n hx hb dX7_pack_64 rfl (lv_at hl 0 rfl) ?_
  refine lv_ldc2 (v := 8) hx hb hown lk_c77 dX7_pack_65 ?_
  refine lv_lmul hx hb dX7_pack_68 ?_
  refine lv_aload_n hx hb dX7_pack_69 rfl (lv_at hl 3 rfl) ?_
  refine kr_get (C := "MonitorWaysModel") (T := TX7) (N := 27) hx hb hts hin_X7 hown hK hP 0 (by decide) (R_0 _ _ _ _) rfl 14 (by decide) lk_f51 (fun _ h9 => h9) rfl dX7_pack_70 ?_
  refine lv_iload hx hb dX7_pack_73 (lv_at hl 1 rfl) ?_
  refine kr_ialdN hx hb hK hP 14 0 (by decide) (R_14 _ _ _ _) rfl (j := 1) (by decide) (by decide) dX7_pack_75 ?_
  refine lv_i2l hx hb dX7_pack_76 rfl ?_
  refine lv_ladd hx hb dX7_pack_77 ?_
  refine lv_lstore_n (lv' := [(3, .long ((((((((((((((((((((((0 * 8) + ((iv 12 0).toInt64)) + 1) * 8) + ((iv 13 0).toInt64)) * 8) + ((iv 14 0).toInt64)) * 4) + ((if iv 14 0 ≤ 0 then (0 : Int32) else iv 15 0).toInt64)) * 4) + ((if iv 14 0 ≤ 1 then (0 : Int32) else iv 15 1).toInt64)) * 4) + ((if iv 14 0 ≤ 2 then (0 : Int32) else iv 15 2).toInt64)) * 4) + ((if iv 14 0 ≤ 3 then (0 : Int32) else iv 15 3).toInt64)) * 8) + ((iv 12 1).toInt64)) + 1) * 8) + ((iv 13 1).toInt64)) * 8) + ((iv 14 1).toInt64))), (5, .int 1), (6, .int 4), (0, .ref (ad 0)), (1, .ref (ad (tc))), (2, .int (nI az))]) hx hb dX7_pack_78 rfl hl (by decide) rfl (fun ls hl => ?_)
  refine lv_iconst (v := 0) hx hb dX7_pack_79 (by decide) ?_
  refine lv_istore (lv' := [(6, .int 0), (3, .long ((((((((((((((((((((((0 * 8) + ((iv 12 0).toInt64)) + 1) * 8) + ((iv 13 0).toInt64)) * 8) + ((iv 14 0).toInt64)) * 4) + ((if iv 14 0 ≤ 0 then (0 : Int32) else iv 15 0).toInt64)) * 4) + ((if iv 14 0 ≤ 1 then (0 : Int32) else iv 15 1).toInt64)) * 4) + ((if iv 14 0 ≤ 2 then (0 : Int32) else iv 15 2).toInt64)) * 4) + ((if iv 14 0 ≤ 3 then (0 : Int32) else iv 15 3).toInt64)) * 8) + ((iv 12 1).toInt64)) + 1) * 8) + ((iv 13 1).toInt64)) * 8) + ((iv 14 1).toInt64))), (5, .int 1), (0, .ref (ad 0)), (1, .ref (ad (tc))), (2, .int (nI az))]) hx hb dX7_pack_80 hl (by decide) rfl (fun ls hl => ?_)
  refine lv_iload hx hb dX7_pack_82 (lv_at hl 0 rfl) ?_
  refine lv_iconst (v := 4) hx hb dX7_pack_84 (by decide) ?_
  refine lv_icmp_ge (tgt := 130) hx hb dX7_pack_85 (by decide) (fun c_17 => absurd c_17 (by decide)) (fun c_17 => ?_)
  refine lv_lload_n hx hb dX7_pack_88 rfl (lv_at hl 1 rfl) ?_
  refine lv_ldc2 (v := 4) hx hb hown lk_c81 dX7_pack_89 ?_
  refine lv_lmul hx hb dX7_pack_92 ?_
  refine lv_iload hx hb dX7_pack_93 (lv_at hl 0 rfl) ?_
  refine lv_aload_n hx hb dX7_pack_95 rfl (lv_at hl 3 rfl) ?_
  refine kr_get (C := "MonitorWaysModel") (T := TX7) (N := 27) hx hb hts hin_X7 hown hK hP 0 (by decide) (R_0 _ _ _ _) rfl 14 (by decide) lk_f51 (fun _ h9 => h9) rfl dX7_pack_96 ?_
  refine lv_iload hx hb dX7_pack_99 (lv_at hl 2 rfl) ?_
  refine kr_ialdN hx hb hK hP 14 0 (by decide) (R_14 _ _ _ _) rfl (j := 1) (by decide) (by decide) dX7_pack_101 ?_
  refine kr_tern (M := 121) (cnd := iv 14 1 ≤ 0) (a := 0) (b := iv 15 4) (rest := [.long (((((((((((((((((((((((0 * 8) + ((iv 12 0).toInt64)) + 1) * 8) + ((iv 13 0).toInt64)) * 8) + ((iv 14 0).toInt64)) * 4) + ((if iv 14 0 ≤ 0 then (0 : Int32) else iv 15 0).toInt64)) * 4) + ((if iv 14 0 ≤ 1 then (0 : Int32) else iv 15 1).toInt64)) * 4) + ((if iv 14 0 ≤ 2 then (0 : Int32) else iv 15 2).toInt64)) * 4) + ((if iv 14 0 ≤ 3 then (0 : Int32) else iv 15 3).toInt64)) * 8) + ((iv 12 1).toInt64)) + 1) * 8) + ((iv 13 1).toInt64)) * 8) + ((iv 14 1).toInt64)) * 4)]) (fun ja jb => ?_) ?_
  · refine lv_icmp_ge (tgt := 120) hx hb dX7_pack_102 (by decide) (fun c_18 => ?_) (fun c_18 => ?_)
    · refine lv_iconst (v := 0) hx hb dX7_pack_120 (by decide) ?_
      exact ja c_18
    · refine lv_aload_n hx hb dX7_pack_105 rfl (lv_at hl 3 rfl) ?_
      refine kr_get (C := "MonitorWaysModel") (T := TX7) (N := 27) hx hb hts hin_X7 hown hK hP 0 (by decide) (R_0 _ _ _ _) rfl 15 (by decide) lk_f54 (fun _ h9 => h9) rfl dX7_pack_106 ?_
      refine lv_iconst (v := 4) hx hb dX7_pack_109 (by decide) ?_
      refine lv_iload hx hb dX7_pack_110 (lv_at hl 2 rfl) ?_
      refine lv_imul hx hb dX7_pack_112 ?_
      refine kr_topi (y := 4) (by decide) ?_
      refine lv_iload hx hb dX7_pack_113 (lv_at hl 0 rfl) ?_
      refine lv_iadd hx hb dX7_pack_115 ?_
      refine kr_topi (y := 4) (by decide) ?_
      refine kr_ialdN hx hb hK hP 15 0 (by decide) (R_15 _ _ _ _) rfl (j := 4) (by decide) (by decide) dX7_pack_116 ?_
      refine lv_goto (tgt := 121) hx hb dX7_pack_117 (by decide) ?_
      exact jb c_18
  refine lv_i2l hx hb dX7_pack_121 rfl ?_
  refine lv_ladd hx hb dX7_pack_122 ?_
  refine lv_lstore_n (lv' := [(3, .long ((((((((((((((((((((((((0 * 8) + ((iv 12 0).toInt64)) + 1) * 8) + ((iv 13 0).toInt64)) * 8) + ((iv 14 0).toInt64)) * 4) + ((if iv 14 0 ≤ 0 then (0 : Int32) else iv 15 0).toInt64)) * 4) + ((if iv 14 0 ≤ 1 then (0 : Int32) else iv 15 1).toInt64)) * 4) + ((if iv 14 0 ≤ 2 then (0 : Int32) else iv 15 2).toInt64)) * 4) + ((if iv 14 0 ≤ 3 then (0 : Int32) else iv 15 3).toInt64)) * 8) + ((iv 12 1).toInt64)) + 1) * 8) + ((iv 13 1).toInt64)) * 8) + ((iv 14 1).toInt64)) * 4) + ((if iv 14 1 ≤ 0 then (0 : Int32) else iv 15 4).toInt64))), (6, .int 0), (5, .int 1), (0, .ref (ad 0)), (1, .ref (ad (tc))), (2, .int (nI az))]) hx hb dX7_pack_123 rfl hl (by decide) rfl (fun ls hl => ?_)
  refine lv_iinc (v := 1) (lv' := [(6, .int 1), (3, .long ((((((((((((((((((((((((0 * 8) + ((iv 12 0).toInt64)) + 1) * 8) + ((iv 13 0).toInt64)) * 8) + ((iv 14 0).toInt64)) * 4) + ((if iv 14 0 ≤ 0 then (0 : Int32) else iv 15 0).toInt64)) * 4) + ((if iv 14 0 ≤ 1 then (0 : Int32) else iv 15 1).toInt64)) * 4) + ((if iv 14 0 ≤ 2 then (0 : Int32) else iv 15 2).toInt64)) * 4) + ((if iv 14 0 ≤ 3 then (0 : Int32) else iv 15 3).toInt64)) * 8) + ((iv 12 1).toInt64)) + 1) * 8) + ((iv 13 1).toInt64)) * 8) + ((iv 14 1).toInt64)) * 4) + ((if iv 14 1 ≤ 0 then (0 : Int32) else iv 15 4).toInt64))), (5, .int 1), (0, .ref (ad 0)), (1, .ref (ad (tc))), (2, .int (nI az))]) hx hb dX7_pack_124 hl (k := 1) rfl (by decide) (by decide) rfl (fun ls hl => ?_)
  refine lv_goto (tgt := 82) hx hb dX7_pack_127 (by decide) ?_
  refine lv_iload hx hb dX7_pack_82 (lv_at hl 0 rfl) ?_
  refine lv_iconst (v := 4) hx hb dX7_pack_84 (by decide) ?_
  refine lv_icmp_ge (tgt := 130) hx hb dX7_pack_85 (by decide) (fun c_19 => absurd c_19 (by decide)) (fun c_19 => ?_)
  refine lv_lload_n hx hb dX7_pack_88 rfl (lv_at hl 1 rfl) ?_
  refine lv_ldc2 (v := 4) hx hb hown lk_c81 dX7_pack_89 ?_
  refine lv_lmul hx hb dX7_pack_92 ?_
  refine lv_iload hx hb dX7_pack_93 (lv_at hl 0 rfl) ?_
  refine lv_aload_n hx hb dX7_pack_95 rfl (lv_at hl 3 rfl) ?_
  refine kr_get (C := "MonitorWaysModel") (T := TX7) (N := 27) hx hb hts hin_X7 hown hK hP 0 (by decide) (R_0 _ _ _ _) rfl 14 (by decide) lk_f51 (fun _ h9 => h9) rfl dX7_pack_96 ?_
  refine lv_iload hx hb dX7_pack_99 (lv_at hl 2 rfl) ?_
  refine kr_ialdN hx hb hK hP 14 0 (by decide) (R_14 _ _ _ _) rfl (j := 1) (by decide) (by decide) dX7_pack_101 ?_
  refine kr_tern (M := 121) (cnd := iv 14 1 ≤ 1) (a := 0) (b := iv 15 5) (rest := [.long (((((((((((((((((((((((((0 * 8) + ((iv 12 0).toInt64)) + 1) * 8) + ((iv 13 0).toInt64)) * 8) + ((iv 14 0).toInt64)) * 4) + ((if iv 14 0 ≤ 0 then (0 : Int32) else iv 15 0).toInt64)) * 4) + ((if iv 14 0 ≤ 1 then (0 : Int32) else iv 15 1).toInt64)) * 4) + ((if iv 14 0 ≤ 2 then (0 : Int32) else iv 15 2).toInt64)) * 4) + ((if iv 14 0 ≤ 3 then (0 : Int32) else iv 15 3).toInt64)) * 8) + ((iv 12 1).toInt64)) + 1) * 8) + ((iv 13 1).toInt64)) * 8) + ((iv 14 1).toInt64)) * 4) + ((if iv 14 1 ≤ 0 then (0 : Int32) else iv 15 4).toInt64)) * 4)]) (fun ja jb => ?_) ?_
  · refine lv_icmp_ge (tgt := 120) hx hb dX7_pack_102 (by decide) (fun c_20 => ?_) (fun c_20 => ?_)
    · refine lv_iconst (v := 0) hx hb dX7_pack_120 (by decide) ?_
      exact ja c_20
    · refine lv_aload_n hx hb dX7_pack_105 rfl (lv_at hl 3 rfl) ?_
      refine kr_get (C := "MonitorWaysModel") (T := TX7) (N := 27) hx hb hts hin_X7 hown hK hP 0 (by decide) (R_0 _ _ _ _) rfl 15 (by decide) lk_f54 (fun _ h9 => h9) rfl dX7_pack_106 ?_
      refine lv_iconst (v := 4) hx hb dX7_pack_109 (by decide) ?_
      refine lv_iload hx hb dX7_pack_110 (lv_at hl 2 rfl) ?_
      refine lv_imul hx hb dX7_pack_112 ?_
      refine kr_topi (y := 4) (by decide) ?_
      refine lv_iload hx hb dX7_pack_113 (lv_at hl 0 rfl) ?_
      refine lv_iadd hx hb dX7_pack_115 ?_
      refine kr_topi (y := 5) (by decide) ?_
      refine kr_ialdN hx hb hK hP 15 0 (by decide) (R_15 _ _ _ _) rfl (j := 5) (by decide) (by decide) dX7_pack_116 ?_
      refine lv_goto (tgt := 121) hx hb dX7_pack_117 (by decide) ?_
      exact jb c_20
  refine lv_i2l hx hb dX7_pack_121 rfl ?_
  refine lv_ladd hx hb dX7_pack_122 ?_
  refine lv_lstore_n (lv' := [(3, .long ((((((((((((((((((((((((((0 * 8) + ((iv 12 0).toInt64)) + 1) * 8) + ((iv 13 0).toInt64)) * 8) + ((iv 14 0).toInt64)) * 4) + ((if iv 14 0 ≤ 0 then (0 : Int32) else iv 15 0).toInt64)) * 4) + ((if iv 14 0 ≤ 1 then (0 : Int32) else iv 15 1).toInt64)) * 4) + ((if iv 14 0 ≤ 2 then (0 : Int32) else iv 15 2).toInt64)) * 4) + ((if iv 14 0 ≤ 3 then (0 : Int32) else iv 15 3).toInt64)) * 8) + ((iv 12 1).toInt64)) + 1) * 8) + ((iv 13 1).toInt64)) * 8) + ((iv 14 1).toInt64)) * 4) + ((if iv 14 1 ≤ 0 then (0 : Int32) else iv 15 4).toInt64)) * 4) + ((if iv 14 1 ≤ 1 then (0 : Int32) else iv 15 5).toInt64))), (6, .int 1), (5, .int 1), (0, .ref (ad 0)), (1, .ref (ad (tc))), (2, .int (nI az))]) hx hb dX7_pack_123 rfl hl (by decide) rfl (fun ls hl => ?_)
  refine lv_iinc (v := 2) (lv' := [(6, .int 2), (3, .long ((((((((((((((((((((((((((0 * 8) + ((iv 12 0).toInt64)) + 1) * 8) + ((iv 13 0).toInt64)) * 8) + ((iv 14 0).toInt64)) * 4) + ((if iv 14 0 ≤ 0 then (0 : Int32) else iv 15 0).toInt64)) * 4) + ((if iv 14 0 ≤ 1 then (0 : Int32) else iv 15 1).toInt64)) * 4) + ((if iv 14 0 ≤ 2 then (0 : Int32) else iv 15 2).toInt64)) * 4) + ((if iv 14 0 ≤ 3 then (0 : Int32) else iv 15 3).toInt64)) * 8) + ((iv 12 1).toInt64)) + 1) * 8) + ((iv 13 1).toInt64)) * 8) + ((iv 14 1).toInt64)) * 4) + ((if iv 14 1 ≤ 0 then (0 : Int32) else iv 15 4).toInt64)) * 4) + ((if iv 14 1 ≤ 1 then (0 : Int32) else iv 15 5).toInt64))), (5, .int 1), (0, .ref (ad 0)), (1, .ref (ad (tc))), (2, .int (nI az))]) hx hb dX7_pack_124 hl (k := 1) rfl (by decide) (by decide) rfl (fun ls hl => ?_)
  refine lv_goto (tgt := 82) hx hb dX7_pack_127 (by decide) ?_
  refine lv_iload hx hb dX7_pack_82 (lv_at hl 0 rfl) ?_
  refine lv_iconst (v := 4) hx hb dX7_pack_84 (by decide) ?_
  refine lv_icmp_ge (tgt := 130) hx hb dX7_pack_85 (by decide) (fun c_21 => absurd c_21 (by decide)) (fun c_21 => ?_)
  refine lv_lload_n hx hb dX7_pack_88 rfl (lv_at hl 1 rfl) ?_
  refine lv_ldc2 (v := 4) hx hb hown lk_c81 dX7_pack_89 ?_
  refine lv_lmul hx hb dX7_pack_92 ?_
  refine lv_iload hx hb dX7_pack_93 (lv_at hl 0 rfl) ?_
  refine lv_aload_n hx hb dX7_pack_95 rfl (lv_at hl 3 rfl) ?_
  refine kr_get (C := "MonitorWaysModel") (T := TX7) (N := 27) hx hb hts hin_X7 hown hK hP 0 (by decide) (R_0 _ _ _ _) rfl 14 (by decide) lk_f51 (fun _ h9 => h9) rfl dX7_pack_96 ?_
  refine lv_iload hx hb dX7_pack_99 (lv_at hl 2 rfl) ?_
  refine kr_ialdN hx hb hK hP 14 0 (by decide) (R_14 _ _ _ _) rfl (j := 1) (by decide) (by decide) dX7_pack_101 ?_
  refine kr_tern (M := 121) (cnd := iv 14 1 ≤ 2) (a := 0) (b := iv 15 6) (rest := [.long (((((((((((((((((((((((((((0 * 8) + ((iv 12 0).toInt64)) + 1) * 8) + ((iv 13 0).toInt64)) * 8) + ((iv 14 0).toInt64)) * 4) + ((if iv 14 0 ≤ 0 then (0 : Int32) else iv 15 0).toInt64)) * 4) + ((if iv 14 0 ≤ 1 then (0 : Int32) else iv 15 1).toInt64)) * 4) + ((if iv 14 0 ≤ 2 then (0 : Int32) else iv 15 2).toInt64)) * 4) + ((if iv 14 0 ≤ 3 then (0 : Int32) else iv 15 3).toInt64)) * 8) + ((iv 12 1).toInt64)) + 1) * 8) + ((iv 13 1).toInt64)) * 8) + ((iv 14 1).toInt64)) * 4) + ((if iv 14 1 ≤ 0 then (0 : Int32) else iv 15 4).toInt64)) * 4) + ((if iv 14 1 ≤ 1 then (0 : Int32) else iv 15 5).toInt64)) * 4)]) (fun ja jb => ?_) ?_
  · refine lv_icmp_ge (tgt := 120) hx hb dX7_pack_102 (by decide) (fun c_22 => ?_) (fun c_22 => ?_)
    · refine lv_iconst (v := 0) hx hb dX7_pack_120 (by decide) ?_
      exact ja c_22
    · refine lv_aload_n hx hb dX7_pack_105 rfl (lv_at hl 3 rfl) ?_
      refine kr_get (C := "MonitorWaysModel") (T := TX7) (N := 27) hx hb hts hin_X7 hown hK hP 0 (by decide) (R_0 _ _ _ _) rfl 15 (by decide) lk_f54 (fun _ h9 => h9) rfl dX7_pack_106 ?_
      refine lv_iconst (v := 4) hx hb dX7_pack_109 (by decide) ?_
      refine lv_iload hx hb dX7_pack_110 (lv_at hl 2 rfl) ?_
      refine lv_imul hx hb dX7_pack_112 ?_
      refine kr_topi (y := 4) (by decide) ?_
      refine lv_iload hx hb dX7_pack_113 (lv_at hl 0 rfl) ?_
      refine lv_iadd hx hb dX7_pack_115 ?_
      refine kr_topi (y := 6) (by decide) ?_
      refine kr_ialdN hx hb hK hP 15 0 (by decide) (R_15 _ _ _ _) rfl (j := 6) (by decide) (by decide) dX7_pack_116 ?_
      refine lv_goto (tgt := 121) hx hb dX7_pack_117 (by decide) ?_
      exact jb c_22
  refine lv_i2l hx hb dX7_pack_121 rfl ?_
  refine lv_ladd hx hb dX7_pack_122 ?_
  refine lv_lstore_n (lv' := [(3, .long ((((((((((((((((((((((((((((0 * 8) + ((iv 12 0).toInt64)) + 1) * 8) + ((iv 13 0).toInt64)) * 8) + ((iv 14 0).toInt64)) * 4) + ((if iv 14 0 ≤ 0 then (0 : Int32) else iv 15 0).toInt64)) * 4) + ((if iv 14 0 ≤ 1 then (0 : Int32) else iv 15 1).toInt64)) * 4) + ((if iv 14 0 ≤ 2 then (0 : Int32) else iv 15 2).toInt64)) * 4) + ((if iv 14 0 ≤ 3 then (0 : Int32) else iv 15 3).toInt64)) * 8) + ((iv 12 1).toInt64)) + 1) * 8) + ((iv 13 1).toInt64)) * 8) + ((iv 14 1).toInt64)) * 4) + ((if iv 14 1 ≤ 0 then (0 : Int32) else iv 15 4).toInt64)) * 4) + ((if iv 14 1 ≤ 1 then (0 : Int32) else iv 15 5).toInt64)) * 4) + ((if iv 14 1 ≤ 2 then (0 : Int32) else iv 15 6).toInt64))), (6, .int 2), (5, .int 1), (0, .ref (ad 0)), (1, .ref (ad (tc))), (2, .int (nI az))]) hx hb dX7_pack_123 rfl hl (by decide) rfl (fun ls hl => ?_)
  refine lv_iinc (v := 3) (lv' := [(6, .int 3), (3, .long ((((((((((((((((((((((((((((0 * 8) + ((iv 12 0).toInt64)) + 1) * 8) + ((iv 13 0).toInt64)) * 8) + ((iv 14 0).toInt64)) * 4) + ((if iv 14 0 ≤ 0 then (0 : Int32) else iv 15 0).toInt64)) * 4) + ((if iv 14 0 ≤ 1 then (0 : Int32) else iv 15 1).toInt64)) * 4) + ((if iv 14 0 ≤ 2 then (0 : Int32) else iv 15 2).toInt64)) * 4) + ((if iv 14 0 ≤ 3 then (0 : Int32) else iv 15 3).toInt64)) * 8) + ((iv 12 1).toInt64)) + 1) * 8) + ((iv 13 1).toInt64)) * 8) + ((iv 14 1).toInt64)) * 4) + ((if iv 14 1 ≤ 0 then (0 : Int32) else iv 15 4).toInt64)) * 4) + ((if iv 14 1 ≤ 1 then (0 : Int32) else iv 15 5).toInt64)) * 4) + ((if iv 14 1 ≤ 2 then (0 : Int32) else iv 15 6).toInt64))), (5, .int 1), (0, .ref (ad 0)), (1, .ref (ad (tc))), (2, .int (nI az))]) hx hb dX7_pack_124 hl (k := 1) rfl (by decide) (by decide) rfl (fun ls hl => ?_)
  refine lv_goto (tgt := 82) hx hb dX7_pack_127 (by decide) ?_
  refine lv_iload hx hb dX7_pack_82 (lv_at hl 0 rfl) ?_
  refine lv_iconst (v := 4) hx hb dX7_pack_84 (by decide) ?_
  refine lv_icmp_ge (tgt := 130) hx hb dX7_pack_85 (by decide) (fun c_23 => absurd c_23 (by decide)) (fun c_23 => ?_)
  refine lv_lload_n hx hb dX7_pack_88 rfl (lv_at hl 1 rfl) ?_
  refine lv_ldc2 (v := 4) hx hb hown lk_c81 dX7_pack_89 ?_
  refine lv_lmul hx hb dX7_pack_92 ?_
  refine lv_iload hx hb dX7_pack_93 (lv_at hl 0 rfl) ?_
  refine lv_aload_n hx hb dX7_pack_95 rfl (lv_at hl 3 rfl) ?_
  refine kr_get (C := "MonitorWaysModel") (T := TX7) (N := 27) hx hb hts hin_X7 hown hK hP 0 (by decide) (R_0 _ _ _ _) rfl 14 (by decide) lk_f51 (fun _ h9 => h9) rfl dX7_pack_96 ?_
  refine lv_iload hx hb dX7_pack_99 (lv_at hl 2 rfl) ?_
  refine kr_ialdN hx hb hK hP 14 0 (by decide) (R_14 _ _ _ _) rfl (j := 1) (by decide) (by decide) dX7_pack_101 ?_
  refine kr_tern (M := 121) (cnd := iv 14 1 ≤ 3) (a := 0) (b := iv 15 7) (rest := [.long (((((((((((((((((((((((((((((0 * 8) + ((iv 12 0).toInt64)) + 1) * 8) + ((iv 13 0).toInt64)) * 8) + ((iv 14 0).toInt64)) * 4) + ((if iv 14 0 ≤ 0 then (0 : Int32) else iv 15 0).toInt64)) * 4) + ((if iv 14 0 ≤ 1 then (0 : Int32) else iv 15 1).toInt64)) * 4) + ((if iv 14 0 ≤ 2 then (0 : Int32) else iv 15 2).toInt64)) * 4) + ((if iv 14 0 ≤ 3 then (0 : Int32) else iv 15 3).toInt64)) * 8) + ((iv 12 1).toInt64)) + 1) * 8) + ((iv 13 1).toInt64)) * 8) + ((iv 14 1).toInt64)) * 4) + ((if iv 14 1 ≤ 0 then (0 : Int32) else iv 15 4).toInt64)) * 4) + ((if iv 14 1 ≤ 1 then (0 : Int32) else iv 15 5).toInt64)) * 4) + ((if iv 14 1 ≤ 2 then (0 : Int32) else iv 15 6).toInt64)) * 4)]) (fun ja jb => ?_) ?_
  · refine lv_icmp_ge (tgt := 120) hx hb dX7_pack_102 (by decide) (fun c_24 => ?_) (fun c_24 => ?_)
    · refine lv_iconst (v := 0) hx hb dX7_pack_120 (by decide) ?_
      exact ja c_24
    · refine lv_aload_n hx hb dX7_pack_105 rfl (lv_at hl 3 rfl) ?_
      refine kr_get (C := "MonitorWaysModel") (T := TX7) (N := 27) hx hb hts hin_X7 hown hK hP 0 (by decide) (R_0 _ _ _ _) rfl 15 (by decide) lk_f54 (fun _ h9 => h9) rfl dX7_pack_106 ?_
      refine lv_iconst (v := 4) hx hb dX7_pack_109 (by decide) ?_
      refine lv_iload hx hb dX7_pack_110 (lv_at hl 2 rfl) ?_
      refine lv_imul hx hb dX7_pack_112 ?_
      refine kr_topi (y := 4) (by decide) ?_
      refine lv_iload hx hb dX7_pack_113 (lv_at hl 0 rfl) ?_
      refine lv_iadd hx hb dX7_pack_115 ?_
      refine kr_topi (y := 7) (by decide) ?_
      refine kr_ialdN hx hb hK hP 15 0 (by decide) (R_15 _ _ _ _) rfl (j := 7) (by decide) (by decide) dX7_pack_116 ?_
      refine lv_goto (tgt := 121) hx hb dX7_pack_117 (by decide) ?_
      exact jb c_24
  refine lv_i2l hx hb dX7_pack_121 rfl ?_
  refine lv_ladd hx hb dX7_pack_122 ?_
  refine lv_lstore_n (lv' := [(3, .long ((((((((((((((((((((((((((((((0 * 8) + ((iv 12 0).toInt64)) + 1) * 8) + ((iv 13 0).toInt64)) * 8) + ((iv 14 0).toInt64)) * 4) + ((if iv 14 0 ≤ 0 then (0 : Int32) else iv 15 0).toInt64)) * 4) + ((if iv 14 0 ≤ 1 then (0 : Int32) else iv 15 1).toInt64)) * 4) + ((if iv 14 0 ≤ 2 then (0 : Int32) else iv 15 2).toInt64)) * 4) + ((if iv 14 0 ≤ 3 then (0 : Int32) else iv 15 3).toInt64)) * 8) + ((iv 12 1).toInt64)) + 1) * 8) + ((iv 13 1).toInt64)) * 8) + ((iv 14 1).toInt64)) * 4) + ((if iv 14 1 ≤ 0 then (0 : Int32) else iv 15 4).toInt64)) * 4) + ((if iv 14 1 ≤ 1 then (0 : Int32) else iv 15 5).toInt64)) * 4) + ((if iv 14 1 ≤ 2 then (0 : Int32) else iv 15 6).toInt64)) * 4) + ((if iv 14 1 ≤ 3 then (0 : Int32) else iv 15 7).toInt64))), (6, .int 3), (5, .int 1), (0, .ref (ad 0)), (1, .ref (ad (tc))), (2, .int (nI az))]) hx hb dX7_pack_123 rfl hl (by decide) rfl (fun ls hl => ?_)
  refine lv_iinc (v := 4) (lv' := [(6, .int 4), (3, .long ((((((((((((((((((((((((((((((0 * 8) + ((iv 12 0).toInt64)) + 1) * 8) + ((iv 13 0).toInt64)) * 8) + ((iv 14 0).toInt64)) * 4) + ((if iv 14 0 ≤ 0 then (0 : Int32) else iv 15 0).toInt64)) * 4) + ((if iv 14 0 ≤ 1 then (0 : Int32) else iv 15 1).toInt64)) * 4) + ((if iv 14 0 ≤ 2 then (0 : Int32) else iv 15 2).toInt64)) * 4) + ((if iv 14 0 ≤ 3 then (0 : Int32) else iv 15 3).toInt64)) * 8) + ((iv 12 1).toInt64)) + 1) * 8) + ((iv 13 1).toInt64)) * 8) + ((iv 14 1).toInt64)) * 4) + ((if iv 14 1 ≤ 0 then (0 : Int32) else iv 15 4).toInt64)) * 4) + ((if iv 14 1 ≤ 1 then (0 : Int32) else iv 15 5).toInt64)) * 4) + ((if iv 14 1 ≤ 2 then (0 : Int32) else iv 15 6).toInt64)) * 4) + ((if iv 14 1 ≤ 3 then (0 : Int32) else iv 15 7).toInt64))), (5, .int 1), (0, .ref (ad 0)), (1, .ref (ad (tc))), (2, .int (nI az))]) hx hb dX7_pack_124 hl (k := 1) rfl (by decide) (by decide) rfl (fun ls hl => ?_)
  refine lv_goto (tgt := 82) hx hb dX7_pack_127 (by decide) ?_
  refine lv_iload hx hb dX7_pack_82 (lv_at hl 0 rfl) ?_
  refine lv_iconst (v := 4) hx hb dX7_pack_84 (by decide) ?_
  refine lv_icmp_ge (tgt := 130) hx hb dX7_pack_85 (by decide) (fun c_25 => ?_) (fun c_25 => absurd (by decide) c_25)
  refine lv_iinc (v := 2) (lv' := [(5, .int 2), (6, .int 4), (3, .long ((((((((((((((((((((((((((((((0 * 8) + ((iv 12 0).toInt64)) + 1) * 8) + ((iv 13 0).toInt64)) * 8) + ((iv 14 0).toInt64)) * 4) + ((if iv 14 0 ≤ 0 then (0 : Int32) else iv 15 0).toInt64)) * 4) + ((if iv 14 0 ≤ 1 then (0 : Int32) else iv 15 1).toInt64)) * 4) + ((if iv 14 0 ≤ 2 then (0 : Int32) else iv 15 2).toInt64)) * 4) + ((if iv 14 0 ≤ 3 then (0 : Int32) else iv 15 3).toInt64)) * 8) + ((iv 12 1).toInt64)) + 1) * 8) + ((iv 13 1).toInt64)) * 8) + ((iv 14 1).toInt64)) * 4) + ((if iv 14 1 ≤ 0 then (0 : Int32) else iv 15 4).toInt64)) * 4) + ((if iv 14 1 ≤ 1 then (0 : Int32) else iv 15 5).toInt64)) * 4) + ((if iv 14 1 ≤ 2 then (0 : Int32) else iv 15 6).toInt64)) * 4) + ((if iv 14 1 ≤ 3 then (0 : Int32) else iv 15 7).toInt64))), (0, .ref (ad 0)), (1, .ref (ad (tc))), (2, .int (nI az))]) hx hb dX7_pack_130 hl (k := 2) rfl (by decide) (by decide) rfl (fun ls hl => ?_)
  refine lv_goto (tgt := 28) hx hb dX7_pack_133 (by decide) ?_
  refine lv_iload hx hb dX7_pack_28 (lv_at hl 0 rfl) ?_
  refine lv_iconst (v := 2) hx hb dX7_pack_30 (by decide) ?_
  refine lv_icmp_ge (tgt := 136) hx hb dX7_pack_31 (by decide) (fun c_26 => ?_) (fun c_26 => absurd (by decide) c_26)
  refine lv_aload_n hx hb dX7_pack_136 rfl (lv_at hl 4 rfl) ?_
  refine lv_iload_n hx hb dX7_pack_137 rfl (lv_at hl 5 rfl) ?_
  refine lv_iconst (v := 4) hx hb dX7_pack_138 (by decide) ?_
  refine lv_iadd hx hb dX7_pack_139 ?_
  refine kr_topi (y := nI (az + 4)) (nI_add az 4) ?_
  refine lv_lload_n hx hb dX7_pack_140 rfl (lv_at hl 2 rfl) ?_
  refine kr_lastN hx hb hK hP hD hS tc 2 (by omega) (fun _ => R_la htc _ _ _ _) rfl (j := (az + 4)) (by omega) (lenL_lt tc) dX7_pack_141 (fun H locs hP hD hS => ?_)
  exact kr_vret hx hb hr hlocks hK hP hD hS (mem4 rfl rfl) dX7_pack_142
def n_oUnp (iv : Nat → Nat → Int32) (lv : Nat → Nat → Int64) (tc az : Nat) : Nat → Nat → Int64 := (n_oTunp (m_oTunp (m_oTunp (m_oTunp iv 0 (lv tc (az + 0))) 1 ((n_oTunp iv lv 0 (lv tc (az + 0))) tc (az + 1))) 2 ((n_oTunp (m_oTunp iv 0 (lv tc (az + 0))) (n_oTunp iv lv 0 (lv tc (az + 0))) 1 ((n_oTunp iv lv 0 (lv tc (az + 0))) tc (az + 1))) tc (az + 2))) (n_oTunp (m_oTunp (m_oTunp iv 0 (lv tc (az + 0))) 1 ((n_oTunp iv lv 0 (lv tc (az + 0))) tc (az + 1))) (n_oTunp (m_oTunp iv 0 (lv tc (az + 0))) (n_oTunp iv lv 0 (lv tc (az + 0))) 1 ((n_oTunp iv lv 0 (lv tc (az + 0))) tc (az + 1))) 2 ((n_oTunp (m_oTunp iv 0 (lv tc (az + 0))) (n_oTunp iv lv 0 (lv tc (az + 0))) 1 ((n_oTunp iv lv 0 (lv tc (az + 0))) tc (az + 1))) tc (az + 2))) 3 ((n_oTunp (m_oTunp (m_oTunp iv 0 (lv tc (az + 0))) 1 ((n_oTunp iv lv 0 (lv tc (az + 0))) tc (az + 1))) (n_oTunp (m_oTunp iv 0 (lv tc (az + 0))) (n_oTunp iv lv 0 (lv tc (az + 0))) 1 ((n_oTunp iv lv 0 (lv tc (az + 0))) tc (az + 1))) 2 ((n_oTunp (m_oTunp iv 0 (lv tc (az + 0))) (n_oTunp iv lv 0 (lv tc (az + 0))) 1 ((n_oTunp iv lv 0 (lv tc (az + 0))) tc (az + 1))) tc (az + 2))) tc (az + 3)))
def m_oUnp (iv : Nat → Nat → Int32) (lv : Nat → Nat → Int64) (tc az : Nat) : Nat → Nat → Int32 := (up2 (up2 (up2 (up2 (up2 (up2 (up2 (up2 (up2 (up2 (up2 (up2 (up2 (up2 (m_oTunp (m_oTunp (m_oTunp (m_oTunp iv 0 (lv tc (az + 0))) 1 ((n_oTunp iv lv 0 (lv tc (az + 0))) tc (az + 1))) 2 ((n_oTunp (m_oTunp iv 0 (lv tc (az + 0))) (n_oTunp iv lv 0 (lv tc (az + 0))) 1 ((n_oTunp iv lv 0 (lv tc (az + 0))) tc (az + 1))) tc (az + 2))) 3 ((n_oTunp (m_oTunp (m_oTunp iv 0 (lv tc (az + 0))) 1 ((n_oTunp iv lv 0 (lv tc (az + 0))) tc (az + 1))) (n_oTunp (m_oTunp iv 0 (lv tc (az + 0))) (n_oTunp iv lv 0 (lv tc (az + 0))) 1 ((n_oTunp iv lv 0 (lv tc (az + 0))) tc (az + 1))) 2 ((n_oTunp (m_oTunp iv 0 (lv tc (az + 0))) (n_oTunp iv lv 0 (lv tc (az + 0))) 1 ((n_oTunp iv lv 0 (lv tc (az + 0))) tc (az + 1))) tc (az + 2))) tc (az + 3))) 15 7 ((((n_oTunp (m_oTunp (m_oTunp (m_oTunp iv 0 (lv tc (az + 0))) 1 ((n_oTunp iv lv 0 (lv tc (az + 0))) tc (az + 1))) 2 ((n_oTunp (m_oTunp iv 0 (lv tc (az + 0))) (n_oTunp iv lv 0 (lv tc (az + 0))) 1 ((n_oTunp iv lv 0 (lv tc (az + 0))) tc (az + 1))) tc (az + 2))) (n_oTunp (m_oTunp (m_oTunp iv 0 (lv tc (az + 0))) 1 ((n_oTunp iv lv 0 (lv tc (az + 0))) tc (az + 1))) (n_oTunp (m_oTunp iv 0 (lv tc (az + 0))) (n_oTunp iv lv 0 (lv tc (az + 0))) 1 ((n_oTunp iv lv 0 (lv tc (az + 0))) tc (az + 1))) 2 ((n_oTunp (m_oTunp iv 0 (lv tc (az + 0))) (n_oTunp iv lv 0 (lv tc (az + 0))) 1 ((n_oTunp iv lv 0 (lv tc (az + 0))) tc (az + 1))) tc (az + 2))) 3 ((n_oTunp (m_oTunp (m_oTunp iv 0 (lv tc (az + 0))) 1 ((n_oTunp iv lv 0 (lv tc (az + 0))) tc (az + 1))) (n_oTunp (m_oTunp iv 0 (lv tc (az + 0))) (n_oTunp iv lv 0 (lv tc (az + 0))) 1 ((n_oTunp iv lv 0 (lv tc (az + 0))) tc (az + 1))) 2 ((n_oTunp (m_oTunp iv 0 (lv tc (az + 0))) (n_oTunp iv lv 0 (lv tc (az + 0))) 1 ((n_oTunp iv lv 0 (lv tc (az + 0))) tc (az + 1))) tc (az + 2))) tc (az + 3))) tc (az + 4)).toInt32) &&& 3)) 15 6 (((((n_oTunp (m_oTunp (m_oTunp (m_oTunp iv 0 (lv tc (az + 0))) 1 ((n_oTunp iv lv 0 (lv tc (az + 0))) tc (az + 1))) 2 ((n_oTunp (m_oTunp iv 0 (lv tc (az + 0))) (n_oTunp iv lv 0 (lv tc (az + 0))) 1 ((n_oTunp iv lv 0 (lv tc (az + 0))) tc (az + 1))) tc (az + 2))) (n_oTunp (m_oTunp (m_oTunp iv 0 (lv tc (az + 0))) 1 ((n_oTunp iv lv 0 (lv tc (az + 0))) tc (az + 1))) (n_oTunp (m_oTunp iv 0 (lv tc (az + 0))) (n_oTunp iv lv 0 (lv tc (az + 0))) 1 ((n_oTunp iv lv 0 (lv tc (az + 0))) tc (az + 1))) 2 ((n_oTunp (m_oTunp iv 0 (lv tc (az + 0))) (n_oTunp iv lv 0 (lv tc (az + 0))) 1 ((n_oTunp iv lv 0 (lv tc (az + 0))) tc (az + 1))) tc (az + 2))) 3 ((n_oTunp (m_oTunp (m_oTunp iv 0 (lv tc (az + 0))) 1 ((n_oTunp iv lv 0 (lv tc (az + 0))) tc (az + 1))) (n_oTunp (m_oTunp iv 0 (lv tc (az + 0))) (n_oTunp iv lv 0 (lv tc (az + 0))) 1 ((n_oTunp iv lv 0 (lv tc (az + 0))) tc (az + 1))) 2 ((n_oTunp (m_oTunp iv 0 (lv tc (az + 0))) (n_oTunp iv lv 0 (lv tc (az + 0))) 1 ((n_oTunp iv lv 0 (lv tc (az + 0))) tc (az + 1))) tc (az + 2))) tc (az + 3))) tc (az + 4)) >>> ((2 : Int32).toInt64 &&& 63)).toInt32) &&& 3)) 15 5 ((((((n_oTunp (m_oTunp (m_oTunp (m_oTunp iv 0 (lv tc (az + 0))) 1 ((n_oTunp iv lv 0 (lv tc (az + 0))) tc (az + 1))) 2 ((n_oTunp (m_oTunp iv 0 (lv tc (az + 0))) (n_oTunp iv lv 0 (lv tc (az + 0))) 1 ((n_oTunp iv lv 0 (lv tc (az + 0))) tc (az + 1))) tc (az + 2))) (n_oTunp (m_oTunp (m_oTunp iv 0 (lv tc (az + 0))) 1 ((n_oTunp iv lv 0 (lv tc (az + 0))) tc (az + 1))) (n_oTunp (m_oTunp iv 0 (lv tc (az + 0))) (n_oTunp iv lv 0 (lv tc (az + 0))) 1 ((n_oTunp iv lv 0 (lv tc (az + 0))) tc (az + 1))) 2 ((n_oTunp (m_oTunp iv 0 (lv tc (az + 0))) (n_oTunp iv lv 0 (lv tc (az + 0))) 1 ((n_oTunp iv lv 0 (lv tc (az + 0))) tc (az + 1))) tc (az + 2))) 3 ((n_oTunp (m_oTunp (m_oTunp iv 0 (lv tc (az + 0))) 1 ((n_oTunp iv lv 0 (lv tc (az + 0))) tc (az + 1))) (n_oTunp (m_oTunp iv 0 (lv tc (az + 0))) (n_oTunp iv lv 0 (lv tc (az + 0))) 1 ((n_oTunp iv lv 0 (lv tc (az + 0))) tc (az + 1))) 2 ((n_oTunp (m_oTunp iv 0 (lv tc (az + 0))) (n_oTunp iv lv 0 (lv tc (az + 0))) 1 ((n_oTunp iv lv 0 (lv tc (az + 0))) tc (az + 1))) tc (az + 2))) tc (az + 3))) tc (az + 4)) >>> ((2 : Int32).toInt64 &&& 63)) >>> ((2 : Int32).toInt64 &&& 63)).toInt32) &&& 3)) 15 4 (((((((n_oTunp (m_oTunp (m_oTunp (m_oTunp iv 0 (lv tc (az + 0))) 1 ((n_oTunp iv lv 0 (lv tc (az + 0))) tc (az + 1))) 2 ((n_oTunp (m_oTunp iv 0 (lv tc (az + 0))) (n_oTunp iv lv 0 (lv tc (az + 0))) 1 ((n_oTunp iv lv 0 (lv tc (az + 0))) tc (az + 1))) tc (az + 2))) (n_oTunp (m_oTunp (m_oTunp iv 0 (lv tc (az + 0))) 1 ((n_oTunp iv lv 0 (lv tc (az + 0))) tc (az + 1))) (n_oTunp (m_oTunp iv 0 (lv tc (az + 0))) (n_oTunp iv lv 0 (lv tc (az + 0))) 1 ((n_oTunp iv lv 0 (lv tc (az + 0))) tc (az + 1))) 2 ((n_oTunp (m_oTunp iv 0 (lv tc (az + 0))) (n_oTunp iv lv 0 (lv tc (az + 0))) 1 ((n_oTunp iv lv 0 (lv tc (az + 0))) tc (az + 1))) tc (az + 2))) 3 ((n_oTunp (m_oTunp (m_oTunp iv 0 (lv tc (az + 0))) 1 ((n_oTunp iv lv 0 (lv tc (az + 0))) tc (az + 1))) (n_oTunp (m_oTunp iv 0 (lv tc (az + 0))) (n_oTunp iv lv 0 (lv tc (az + 0))) 1 ((n_oTunp iv lv 0 (lv tc (az + 0))) tc (az + 1))) 2 ((n_oTunp (m_oTunp iv 0 (lv tc (az + 0))) (n_oTunp iv lv 0 (lv tc (az + 0))) 1 ((n_oTunp iv lv 0 (lv tc (az + 0))) tc (az + 1))) tc (az + 2))) tc (az + 3))) tc (az + 4)) >>> ((2 : Int32).toInt64 &&& 63)) >>> ((2 : Int32).toInt64 &&& 63)) >>> ((2 : Int32).toInt64 &&& 63)).toInt32) &&& 3)) 14 1 ((((((((n_oTunp (m_oTunp (m_oTunp (m_oTunp iv 0 (lv tc (az + 0))) 1 ((n_oTunp iv lv 0 (lv tc (az + 0))) tc (az + 1))) 2 ((n_oTunp (m_oTunp iv 0 (lv tc (az + 0))) (n_oTunp iv lv 0 (lv tc (az + 0))) 1 ((n_oTunp iv lv 0 (lv tc (az + 0))) tc (az + 1))) tc (az + 2))) (n_oTunp (m_oTunp (m_oTunp iv 0 (lv tc (az + 0))) 1 ((n_oTunp iv lv 0 (lv tc (az + 0))) tc (az + 1))) (n_oTunp (m_oTunp iv 0 (lv tc (az + 0))) (n_oTunp iv lv 0 (lv tc (az + 0))) 1 ((n_oTunp iv lv 0 (lv tc (az + 0))) tc (az + 1))) 2 ((n_oTunp (m_oTunp iv 0 (lv tc (az + 0))) (n_oTunp iv lv 0 (lv tc (az + 0))) 1 ((n_oTunp iv lv 0 (lv tc (az + 0))) tc (az + 1))) tc (az + 2))) 3 ((n_oTunp (m_oTunp (m_oTunp iv 0 (lv tc (az + 0))) 1 ((n_oTunp iv lv 0 (lv tc (az + 0))) tc (az + 1))) (n_oTunp (m_oTunp iv 0 (lv tc (az + 0))) (n_oTunp iv lv 0 (lv tc (az + 0))) 1 ((n_oTunp iv lv 0 (lv tc (az + 0))) tc (az + 1))) 2 ((n_oTunp (m_oTunp iv 0 (lv tc (az + 0))) (n_oTunp iv lv 0 (lv tc (az + 0))) 1 ((n_oTunp iv lv 0 (lv tc (az + 0))) tc (az + 1))) tc (az + 2))) tc (az + 3))) tc (az + 4)) >>> ((2 : Int32).toInt64 &&& 63)) >>> ((2 : Int32).toInt64 &&& 63)) >>> ((2 : Int32).toInt64 &&& 63)) >>> ((2 : Int32).toInt64 &&& 63)).toInt32) &&& 7)) 13 1 (((((((((n_oTunp (m_oTunp (m_oTunp (m_oTunp iv 0 (lv tc (az + 0))) 1 ((n_oTunp iv lv 0 (lv tc (az + 0))) tc (az + 1))) 2 ((n_oTunp (m_oTunp iv 0 (lv tc (az + 0))) (n_oTunp iv lv 0 (lv tc (az + 0))) 1 ((n_oTunp iv lv 0 (lv tc (az + 0))) tc (az + 1))) tc (az + 2))) (n_oTunp (m_oTunp (m_oTunp iv 0 (lv tc (az + 0))) 1 ((n_oTunp iv lv 0 (lv tc (az + 0))) tc (az + 1))) (n_oTunp (m_oTunp iv 0 (lv tc (az + 0))) (n_oTunp iv lv 0 (lv tc (az + 0))) 1 ((n_oTunp iv lv 0 (lv tc (az + 0))) tc (az + 1))) 2 ((n_oTunp (m_oTunp iv 0 (lv tc (az + 0))) (n_oTunp iv lv 0 (lv tc (az + 0))) 1 ((n_oTunp iv lv 0 (lv tc (az + 0))) tc (az + 1))) tc (az + 2))) 3 ((n_oTunp (m_oTunp (m_oTunp iv 0 (lv tc (az + 0))) 1 ((n_oTunp iv lv 0 (lv tc (az + 0))) tc (az + 1))) (n_oTunp (m_oTunp iv 0 (lv tc (az + 0))) (n_oTunp iv lv 0 (lv tc (az + 0))) 1 ((n_oTunp iv lv 0 (lv tc (az + 0))) tc (az + 1))) 2 ((n_oTunp (m_oTunp iv 0 (lv tc (az + 0))) (n_oTunp iv lv 0 (lv tc (az + 0))) 1 ((n_oTunp iv lv 0 (lv tc (az + 0))) tc (az + 1))) tc (az + 2))) tc (az + 3))) tc (az + 4)) >>> ((2 : Int32).toInt64 &&& 63)) >>> ((2 : Int32).toInt64 &&& 63)) >>> ((2 : Int32).toInt64 &&& 63)) >>> ((2 : Int32).toInt64 &&& 63)) >>> ((3 : Int32).toInt64 &&& 63)).toInt32) &&& 7)) 12 1 ((((((((((n_oTunp (m_oTunp (m_oTunp (m_oTunp iv 0 (lv tc (az + 0))) 1 ((n_oTunp iv lv 0 (lv tc (az + 0))) tc (az + 1))) 2 ((n_oTunp (m_oTunp iv 0 (lv tc (az + 0))) (n_oTunp iv lv 0 (lv tc (az + 0))) 1 ((n_oTunp iv lv 0 (lv tc (az + 0))) tc (az + 1))) tc (az + 2))) (n_oTunp (m_oTunp (m_oTunp iv 0 (lv tc (az + 0))) 1 ((n_oTunp iv lv 0 (lv tc (az + 0))) tc (az + 1))) (n_oTunp (m_oTunp iv 0 (lv tc (az + 0))) (n_oTunp iv lv 0 (lv tc (az + 0))) 1 ((n_oTunp iv lv 0 (lv tc (az + 0))) tc (az + 1))) 2 ((n_oTunp (m_oTunp iv 0 (lv tc (az + 0))) (n_oTunp iv lv 0 (lv tc (az + 0))) 1 ((n_oTunp iv lv 0 (lv tc (az + 0))) tc (az + 1))) tc (az + 2))) 3 ((n_oTunp (m_oTunp (m_oTunp iv 0 (lv tc (az + 0))) 1 ((n_oTunp iv lv 0 (lv tc (az + 0))) tc (az + 1))) (n_oTunp (m_oTunp iv 0 (lv tc (az + 0))) (n_oTunp iv lv 0 (lv tc (az + 0))) 1 ((n_oTunp iv lv 0 (lv tc (az + 0))) tc (az + 1))) 2 ((n_oTunp (m_oTunp iv 0 (lv tc (az + 0))) (n_oTunp iv lv 0 (lv tc (az + 0))) 1 ((n_oTunp iv lv 0 (lv tc (az + 0))) tc (az + 1))) tc (az + 2))) tc (az + 3))) tc (az + 4)) >>> ((2 : Int32).toInt64 &&& 63)) >>> ((2 : Int32).toInt64 &&& 63)) >>> ((2 : Int32).toInt64 &&& 63)) >>> ((2 : Int32).toInt64 &&& 63)) >>> ((6 : Int32).toInt64 &&& 63)).toInt32) &&& 7) - 1)) 15 3 (((((((((n_oTunp (m_oTunp (m_oTunp (m_oTunp iv 0 (lv tc (az + 0))) 1 ((n_oTunp iv lv 0 (lv tc (az + 0))) tc (az + 1))) 2 ((n_oTunp (m_oTunp iv 0 (lv tc (az + 0))) (n_oTunp iv lv 0 (lv tc (az + 0))) 1 ((n_oTunp iv lv 0 (lv tc (az + 0))) tc (az + 1))) tc (az + 2))) (n_oTunp (m_oTunp (m_oTunp iv 0 (lv tc (az + 0))) 1 ((n_oTunp iv lv 0 (lv tc (az + 0))) tc (az + 1))) (n_oTunp (m_oTunp iv 0 (lv tc (az + 0))) (n_oTunp iv lv 0 (lv tc (az + 0))) 1 ((n_oTunp iv lv 0 (lv tc (az + 0))) tc (az + 1))) 2 ((n_oTunp (m_oTunp iv 0 (lv tc (az + 0))) (n_oTunp iv lv 0 (lv tc (az + 0))) 1 ((n_oTunp iv lv 0 (lv tc (az + 0))) tc (az + 1))) tc (az + 2))) 3 ((n_oTunp (m_oTunp (m_oTunp iv 0 (lv tc (az + 0))) 1 ((n_oTunp iv lv 0 (lv tc (az + 0))) tc (az + 1))) (n_oTunp (m_oTunp iv 0 (lv tc (az + 0))) (n_oTunp iv lv 0 (lv tc (az + 0))) 1 ((n_oTunp iv lv 0 (lv tc (az + 0))) tc (az + 1))) 2 ((n_oTunp (m_oTunp iv 0 (lv tc (az + 0))) (n_oTunp iv lv 0 (lv tc (az + 0))) 1 ((n_oTunp iv lv 0 (lv tc (az + 0))) tc (az + 1))) tc (az + 2))) tc (az + 3))) tc (az + 4)) >>> ((2 : Int32).toInt64 &&& 63)) >>> ((2 : Int32).toInt64 &&& 63)) >>> ((2 : Int32).toInt64 &&& 63)) >>> ((2 : Int32).toInt64 &&& 63)) >>> ((9 : Int32).toInt64 &&& 63)).toInt32) &&& 3)) 15 2 ((((((((((n_oTunp (m_oTunp (m_oTunp (m_oTunp iv 0 (lv tc (az + 0))) 1 ((n_oTunp iv lv 0 (lv tc (az + 0))) tc (az + 1))) 2 ((n_oTunp (m_oTunp iv 0 (lv tc (az + 0))) (n_oTunp iv lv 0 (lv tc (az + 0))) 1 ((n_oTunp iv lv 0 (lv tc (az + 0))) tc (az + 1))) tc (az + 2))) (n_oTunp (m_oTunp (m_oTunp iv 0 (lv tc (az + 0))) 1 ((n_oTunp iv lv 0 (lv tc (az + 0))) tc (az + 1))) (n_oTunp (m_oTunp iv 0 (lv tc (az + 0))) (n_oTunp iv lv 0 (lv tc (az + 0))) 1 ((n_oTunp iv lv 0 (lv tc (az + 0))) tc (az + 1))) 2 ((n_oTunp (m_oTunp iv 0 (lv tc (az + 0))) (n_oTunp iv lv 0 (lv tc (az + 0))) 1 ((n_oTunp iv lv 0 (lv tc (az + 0))) tc (az + 1))) tc (az + 2))) 3 ((n_oTunp (m_oTunp (m_oTunp iv 0 (lv tc (az + 0))) 1 ((n_oTunp iv lv 0 (lv tc (az + 0))) tc (az + 1))) (n_oTunp (m_oTunp iv 0 (lv tc (az + 0))) (n_oTunp iv lv 0 (lv tc (az + 0))) 1 ((n_oTunp iv lv 0 (lv tc (az + 0))) tc (az + 1))) 2 ((n_oTunp (m_oTunp iv 0 (lv tc (az + 0))) (n_oTunp iv lv 0 (lv tc (az + 0))) 1 ((n_oTunp iv lv 0 (lv tc (az + 0))) tc (az + 1))) tc (az + 2))) tc (az + 3))) tc (az + 4)) >>> ((2 : Int32).toInt64 &&& 63)) >>> ((2 : Int32).toInt64 &&& 63)) >>> ((2 : Int32).toInt64 &&& 63)) >>> ((2 : Int32).toInt64 &&& 63)) >>> ((9 : Int32).toInt64 &&& 63)) >>> ((2 : Int32).toInt64 &&& 63)).toInt32) &&& 3)) 15 1 (((((((((((n_oTunp (m_oTunp (m_oTunp (m_oTunp iv 0 (lv tc (az + 0))) 1 ((n_oTunp iv lv 0 (lv tc (az + 0))) tc (az + 1))) 2 ((n_oTunp (m_oTunp iv 0 (lv tc (az + 0))) (n_oTunp iv lv 0 (lv tc (az + 0))) 1 ((n_oTunp iv lv 0 (lv tc (az + 0))) tc (az + 1))) tc (az + 2))) (n_oTunp (m_oTunp (m_oTunp iv 0 (lv tc (az + 0))) 1 ((n_oTunp iv lv 0 (lv tc (az + 0))) tc (az + 1))) (n_oTunp (m_oTunp iv 0 (lv tc (az + 0))) (n_oTunp iv lv 0 (lv tc (az + 0))) 1 ((n_oTunp iv lv 0 (lv tc (az + 0))) tc (az + 1))) 2 ((n_oTunp (m_oTunp iv 0 (lv tc (az + 0))) (n_oTunp iv lv 0 (lv tc (az + 0))) 1 ((n_oTunp iv lv 0 (lv tc (az + 0))) tc (az + 1))) tc (az + 2))) 3 ((n_oTunp (m_oTunp (m_oTunp iv 0 (lv tc (az + 0))) 1 ((n_oTunp iv lv 0 (lv tc (az + 0))) tc (az + 1))) (n_oTunp (m_oTunp iv 0 (lv tc (az + 0))) (n_oTunp iv lv 0 (lv tc (az + 0))) 1 ((n_oTunp iv lv 0 (lv tc (az + 0))) tc (az + 1))) 2 ((n_oTunp (m_oTunp iv 0 (lv tc (az + 0))) (n_oTunp iv lv 0 (lv tc (az + 0))) 1 ((n_oTunp iv lv 0 (lv tc (az + 0))) tc (az + 1))) tc (az + 2))) tc (az + 3))) tc (az + 4)) >>> ((2 : Int32).toInt64 &&& 63)) >>> ((2 : Int32).toInt64 &&& 63)) >>> ((2 : Int32).toInt64 &&& 63)) >>> ((2 : Int32).toInt64 &&& 63)) >>> ((9 : Int32).toInt64 &&& 63)) >>> ((2 : Int32).toInt64 &&& 63)) >>> ((2 : Int32).toInt64 &&& 63)).toInt32) &&& 3)) 15 0 ((((((((((((n_oTunp (m_oTunp (m_oTunp (m_oTunp iv 0 (lv tc (az + 0))) 1 ((n_oTunp iv lv 0 (lv tc (az + 0))) tc (az + 1))) 2 ((n_oTunp (m_oTunp iv 0 (lv tc (az + 0))) (n_oTunp iv lv 0 (lv tc (az + 0))) 1 ((n_oTunp iv lv 0 (lv tc (az + 0))) tc (az + 1))) tc (az + 2))) (n_oTunp (m_oTunp (m_oTunp iv 0 (lv tc (az + 0))) 1 ((n_oTunp iv lv 0 (lv tc (az + 0))) tc (az + 1))) (n_oTunp (m_oTunp iv 0 (lv tc (az + 0))) (n_oTunp iv lv 0 (lv tc (az + 0))) 1 ((n_oTunp iv lv 0 (lv tc (az + 0))) tc (az + 1))) 2 ((n_oTunp (m_oTunp iv 0 (lv tc (az + 0))) (n_oTunp iv lv 0 (lv tc (az + 0))) 1 ((n_oTunp iv lv 0 (lv tc (az + 0))) tc (az + 1))) tc (az + 2))) 3 ((n_oTunp (m_oTunp (m_oTunp iv 0 (lv tc (az + 0))) 1 ((n_oTunp iv lv 0 (lv tc (az + 0))) tc (az + 1))) (n_oTunp (m_oTunp iv 0 (lv tc (az + 0))) (n_oTunp iv lv 0 (lv tc (az + 0))) 1 ((n_oTunp iv lv 0 (lv tc (az + 0))) tc (az + 1))) 2 ((n_oTunp (m_oTunp iv 0 (lv tc (az + 0))) (n_oTunp iv lv 0 (lv tc (az + 0))) 1 ((n_oTunp iv lv 0 (lv tc (az + 0))) tc (az + 1))) tc (az + 2))) tc (az + 3))) tc (az + 4)) >>> ((2 : Int32).toInt64 &&& 63)) >>> ((2 : Int32).toInt64 &&& 63)) >>> ((2 : Int32).toInt64 &&& 63)) >>> ((2 : Int32).toInt64 &&& 63)) >>> ((9 : Int32).toInt64 &&& 63)) >>> ((2 : Int32).toInt64 &&& 63)) >>> ((2 : Int32).toInt64 &&& 63)) >>> ((2 : Int32).toInt64 &&& 63)).toInt32) &&& 3)) 14 0 (((((((((((((n_oTunp (m_oTunp (m_oTunp (m_oTunp iv 0 (lv tc (az + 0))) 1 ((n_oTunp iv lv 0 (lv tc (az + 0))) tc (az + 1))) 2 ((n_oTunp (m_oTunp iv 0 (lv tc (az + 0))) (n_oTunp iv lv 0 (lv tc (az + 0))) 1 ((n_oTunp iv lv 0 (lv tc (az + 0))) tc (az + 1))) tc (az + 2))) (n_oTunp (m_oTunp (m_oTunp iv 0 (lv tc (az + 0))) 1 ((n_oTunp iv lv 0 (lv tc (az + 0))) tc (az + 1))) (n_oTunp (m_oTunp iv 0 (lv tc (az + 0))) (n_oTunp iv lv 0 (lv tc (az + 0))) 1 ((n_oTunp iv lv 0 (lv tc (az + 0))) tc (az + 1))) 2 ((n_oTunp (m_oTunp iv 0 (lv tc (az + 0))) (n_oTunp iv lv 0 (lv tc (az + 0))) 1 ((n_oTunp iv lv 0 (lv tc (az + 0))) tc (az + 1))) tc (az + 2))) 3 ((n_oTunp (m_oTunp (m_oTunp iv 0 (lv tc (az + 0))) 1 ((n_oTunp iv lv 0 (lv tc (az + 0))) tc (az + 1))) (n_oTunp (m_oTunp iv 0 (lv tc (az + 0))) (n_oTunp iv lv 0 (lv tc (az + 0))) 1 ((n_oTunp iv lv 0 (lv tc (az + 0))) tc (az + 1))) 2 ((n_oTunp (m_oTunp iv 0 (lv tc (az + 0))) (n_oTunp iv lv 0 (lv tc (az + 0))) 1 ((n_oTunp iv lv 0 (lv tc (az + 0))) tc (az + 1))) tc (az + 2))) tc (az + 3))) tc (az + 4)) >>> ((2 : Int32).toInt64 &&& 63)) >>> ((2 : Int32).toInt64 &&& 63)) >>> ((2 : Int32).toInt64 &&& 63)) >>> ((2 : Int32).toInt64 &&& 63)) >>> ((9 : Int32).toInt64 &&& 63)) >>> ((2 : Int32).toInt64 &&& 63)) >>> ((2 : Int32).toInt64 &&& 63)) >>> ((2 : Int32).toInt64 &&& 63)) >>> ((2 : Int32).toInt64 &&& 63)).toInt32) &&& 7)) 13 0 ((((((((((((((n_oTunp (m_oTunp (m_oTunp (m_oTunp iv 0 (lv tc (az + 0))) 1 ((n_oTunp iv lv 0 (lv tc (az + 0))) tc (az + 1))) 2 ((n_oTunp (m_oTunp iv 0 (lv tc (az + 0))) (n_oTunp iv lv 0 (lv tc (az + 0))) 1 ((n_oTunp iv lv 0 (lv tc (az + 0))) tc (az + 1))) tc (az + 2))) (n_oTunp (m_oTunp (m_oTunp iv 0 (lv tc (az + 0))) 1 ((n_oTunp iv lv 0 (lv tc (az + 0))) tc (az + 1))) (n_oTunp (m_oTunp iv 0 (lv tc (az + 0))) (n_oTunp iv lv 0 (lv tc (az + 0))) 1 ((n_oTunp iv lv 0 (lv tc (az + 0))) tc (az + 1))) 2 ((n_oTunp (m_oTunp iv 0 (lv tc (az + 0))) (n_oTunp iv lv 0 (lv tc (az + 0))) 1 ((n_oTunp iv lv 0 (lv tc (az + 0))) tc (az + 1))) tc (az + 2))) 3 ((n_oTunp (m_oTunp (m_oTunp iv 0 (lv tc (az + 0))) 1 ((n_oTunp iv lv 0 (lv tc (az + 0))) tc (az + 1))) (n_oTunp (m_oTunp iv 0 (lv tc (az + 0))) (n_oTunp iv lv 0 (lv tc (az + 0))) 1 ((n_oTunp iv lv 0 (lv tc (az + 0))) tc (az + 1))) 2 ((n_oTunp (m_oTunp iv 0 (lv tc (az + 0))) (n_oTunp iv lv 0 (lv tc (az + 0))) 1 ((n_oTunp iv lv 0 (lv tc (az + 0))) tc (az + 1))) tc (az + 2))) tc (az + 3))) tc (az + 4)) >>> ((2 : Int32).toInt64 &&& 63)) >>> ((2 : Int32).toInt64 &&& 63)) >>> ((2 : Int32).toInt64 &&& 63)) >>> ((2 : Int32).toInt64 &&& 63)) >>> ((9 : Int32).toInt64 &&& 63)) >>> ((2 : Int32).toInt64 &&& 63)) >>> ((2 : Int32).toInt64 &&& 63)) >>> ((2 : Int32).toInt64 &&& 63)) >>> ((2 : Int32).toInt64 &&& 63)) >>> ((3 : Int32).toInt64 &&& 63)).toInt32) &&& 7)) 12 0 (((((((((((((((n_oTunp (m_oTunp (m_oTunp (m_oTunp iv 0 (lv tc (az + 0))) 1 ((n_oTunp iv lv 0 (lv tc (az + 0))) tc (az + 1))) 2 ((n_oTunp (m_oTunp iv 0 (lv tc (az + 0))) (n_oTunp iv lv 0 (lv tc (az + 0))) 1 ((n_oTunp iv lv 0 (lv tc (az + 0))) tc (az + 1))) tc (az + 2))) (n_oTunp (m_oTunp (m_oTunp iv 0 (lv tc (az + 0))) 1 ((n_oTunp iv lv 0 (lv tc (az + 0))) tc (az + 1))) (n_oTunp (m_oTunp iv 0 (lv tc (az + 0))) (n_oTunp iv lv 0 (lv tc (az + 0))) 1 ((n_oTunp iv lv 0 (lv tc (az + 0))) tc (az + 1))) 2 ((n_oTunp (m_oTunp iv 0 (lv tc (az + 0))) (n_oTunp iv lv 0 (lv tc (az + 0))) 1 ((n_oTunp iv lv 0 (lv tc (az + 0))) tc (az + 1))) tc (az + 2))) 3 ((n_oTunp (m_oTunp (m_oTunp iv 0 (lv tc (az + 0))) 1 ((n_oTunp iv lv 0 (lv tc (az + 0))) tc (az + 1))) (n_oTunp (m_oTunp iv 0 (lv tc (az + 0))) (n_oTunp iv lv 0 (lv tc (az + 0))) 1 ((n_oTunp iv lv 0 (lv tc (az + 0))) tc (az + 1))) 2 ((n_oTunp (m_oTunp iv 0 (lv tc (az + 0))) (n_oTunp iv lv 0 (lv tc (az + 0))) 1 ((n_oTunp iv lv 0 (lv tc (az + 0))) tc (az + 1))) tc (az + 2))) tc (az + 3))) tc (az + 4)) >>> ((2 : Int32).toInt64 &&& 63)) >>> ((2 : Int32).toInt64 &&& 63)) >>> ((2 : Int32).toInt64 &&& 63)) >>> ((2 : Int32).toInt64 &&& 63)) >>> ((9 : Int32).toInt64 &&& 63)) >>> ((2 : Int32).toInt64 &&& 63)) >>> ((2 : Int32).toInt64 &&& 63)) >>> ((2 : Int32).toInt64 &&& 63)) >>> ((2 : Int32).toInt64 &&& 63)) >>> ((6 : Int32).toInt64 &&& 63)).toInt32) &&& 7) - 1))
set_option maxHeartbeats 4000000 in
set_option maxRecDepth 100000 in
theorem c_oUnp (l : Launch) (D : va_G) (gc : Nat → ClassId) (ad ln : Nat → Nat) (iv : Nat → Nat → Int32) (lv : Nat → Nat → Int64) (tc az : Nat) (htc : tc = 16 ∨ tc = 17) (haz : az + 5 ≤ lenL tc) : kMv l yX7_unpack wX7_unpack ({ frames := 1, cells := 0, slots := 0, locals := 25 }) D vwCl (kT gc) 20 (rE gc) [.ref (ad 0), .ref (ad (tc)), .int (nI az)] (ad, ln, iv, lv) (ad, ln, m_oUnp iv lv tc az, n_oUnp iv lv tc az) := by
  refine kv_start (cc := cX7_unpack) (maxL := 7) (by decide) rfl (Nat.le_of_ble_eq_true rfl) ?_
  intro p9 e9 s m9 below meth c9 A ls hx hb hr hts hown hlocks hml hA hK hP hD hS hl
  have hl : lv_has ls 7 [(0, .ref (ad 0)), (1, .ref (ad (tc))), (2, .int (nI az))] := hl
  have hown : s.vm.findClass "MonitorWaysModel" = some m9.cls := hown
  have hin_X7 : ∀ w ∈ u_ws "MonitorWaysModel" TX7 27, w ∈ wX7_unpack := fun w h => tcons (inX7 w h)
  have lk_f54 := hts _ (tcons tw_589)
  have lk_f51 := hts _ (tcons tw_588)
  have lk_f48 := hts _ (tcons tw_587)
  have lk_f45 := hts _ (tcons tw_586)
  refine lv_iconst (v := 0) hx hb dX7_unpack_0 (by decide) ?_
  refine lv_istore_n (lv' := [(3, .int 0), (0, .ref (ad 0)), (1, .ref (ad (tc))), (2, .int (nI az))]) hx hb dX7_unpack_1 rfl hl (by decide) rfl (fun ls hl => ?_)
  refine lv_iload_n hx hb dX7_unpack_2 rfl (lv_at hl 0 rfl) ?_
  refine lv_iconst (v := 4) hx hb dX7_unpack_3 (by decide) ?_
  refine lv_icmp_ge (tgt := 23) hx hb dX7_unpack_4 (by decide) (fun c_1 => absurd c_1 (by decide)) (fun c_1 => ?_)
  refine lv_aload_n hx hb dX7_unpack_7 rfl (lv_at hl 1 rfl) ?_
  refine lv_iload_n hx hb dX7_unpack_8 rfl (lv_at hl 0 rfl) ?_
  refine lv_aload_n hx hb dX7_unpack_9 rfl (lv_at hl 2 rfl) ?_
  refine lv_iload_n hx hb dX7_unpack_10 rfl (lv_at hl 3 rfl) ?_
  refine lv_iload_n hx hb dX7_unpack_11 rfl (lv_at hl 0 rfl) ?_
  refine lv_iadd hx hb dX7_unpack_12 ?_
  refine kr_topi (y := nI (az + 0)) (nI_add az 0) ?_
  refine kr_laldN hx hb hK hP tc 2 (by omega) (R_la htc _ _ _ _) rfl (j := (az + 0)) (by omega) (lenL_lt tc) dX7_unpack_13 ?_
  refine kr_callVv (As := [.int 0, .long (lv tc (az + 0))]) (rest := []) ⟨hx, hb, hml, hown, hts⟩ (c_oTunp l D gc ad ln iv lv 0 (by decide) (lv tc (az + 0))) (cwV 2 hts (goodV (fun _ h => tcons h) tw_674 tw_676 ts_29 tw_8 tw_677) rfl rfl rfl (by decide +kernel) ⟨Nat.le_of_ble_eq_true rfl, Nat.le_of_ble_eq_true rfl⟩) (kr_recv hK hP 0 (by decide) (R_0 _ _ _ _) rfl) hK hP hD hS hA rfl hl.1 rfl (Nat.le_of_ble_eq_true rfl) dX7_unpack_14 ⟨Nat.le_of_ble_eq_true rfl, Nat.le_of_ble_eq_true rfl⟩ (fun H locs hP hD hS => ?_)
  refine lv_iinc (v := 1) (lv' := [(3, .int 1), (0, .ref (ad 0)), (1, .ref (ad (tc))), (2, .int (nI az))]) hx hb dX7_unpack_17 hl (k := 0) rfl (by decide) (by decide) rfl (fun ls hl => ?_)
  refine lv_goto (tgt := 2) hx hb dX7_unpack_20 (by decide) ?_
  refine lv_iload_n hx hb dX7_unpack_2 rfl (lv_at hl 0 rfl) ?_
  refine lv_iconst (v := 4) hx hb dX7_unpack_3 (by decide) ?_
  refine lv_icmp_ge (tgt := 23) hx hb dX7_unpack_4 (by decide) (fun c_2 => absurd c_2 (by decide)) (fun c_2 => ?_)
  refine lv_aload_n hx hb dX7_unpack_7 rfl (lv_at hl 1 rfl) ?_
  refine lv_iload_n hx hb dX7_unpack_8 rfl (lv_at hl 0 rfl) ?_
  refine lv_aload_n hx hb dX7_unpack_9 rfl (lv_at hl 2 rfl) ?_
  refine lv_iload_n hx hb dX7_unpack_10 rfl (lv_at hl 3 rfl) ?_
  refine lv_iload_n hx hb dX7_unpack_11 rfl (lv_at hl 0 rfl) ?_
  refine lv_iadd hx hb dX7_unpack_12 ?_
  refine kr_topi (y := nI (az + 1)) (nI_add az 1) ?_
  refine kr_laldN hx hb hK hP tc 2 (by omega) (R_la htc _ _ _ _) rfl (j := (az + 1)) (by omega) (lenL_lt tc) dX7_unpack_13 ?_
  refine kr_callVv (As := [.int 1, .long ((n_oTunp iv lv 0 (lv tc (az + 0))) tc (az + 1))]) (rest := []) ⟨hx, hb, hml, hown, hts⟩ (c_oTunp l D gc ad ln (m_oTunp iv 0 (lv tc (az + 0))) (n_oTunp iv lv 0 (lv tc (az + 0))) 1 (by decide) ((n_oTunp iv lv 0 (lv tc (az + 0))) tc (az + 1))) (cwV 2 hts (goodV (fun _ h => tcons h) tw_674 tw_676 ts_29 tw_8 tw_677) rfl rfl rfl (by decide +kernel) ⟨Nat.le_of_ble_eq_true rfl, Nat.le_of_ble_eq_true rfl⟩) (kr_recv hK hP 0 (by decide) (R_0 _ _ _ _) rfl) hK hP hD hS hA rfl hl.1 rfl (Nat.le_of_ble_eq_true rfl) dX7_unpack_14 ⟨Nat.le_of_ble_eq_true rfl, Nat.le_of_ble_eq_true rfl⟩ (fun H locs hP hD hS => ?_)
  refine lv_iinc (v := 2) (lv' := [(3, .int 2), (0, .ref (ad 0)), (1, .ref (ad (tc))), (2, .int (nI az))]) hx hb dX7_unpack_17 hl (k := 0) rfl (by decide) (by decide) rfl (fun ls hl => ?_)
  refine lv_goto (tgt := 2) hx hb dX7_unpack_20 (by decide) ?_
  refine lv_iload_n hx hb dX7_unpack_2 rfl (lv_at hl 0 rfl) ?_
  refine lv_iconst (v := 4) hx hb dX7_unpack_3 (by decide) ?_
  refine lv_icmp_ge (tgt := 23) hx hb dX7_unpack_4 (by decide) (fun c_3 => absurd c_3 (by decide)) (fun c_3 => ?_)
  refine lv_aload_n hx hb dX7_unpack_7 rfl (lv_at hl 1 rfl) ?_
  refine lv_iload_n hx hb dX7_unpack_8 rfl (lv_at hl 0 rfl) ?_
  refine lv_aload_n hx hb dX7_unpack_9 rfl (lv_at hl 2 rfl) ?_
  refine lv_iload_n hx hb dX7_unpack_10 rfl (lv_at hl 3 rfl) ?_
  refine lv_iload_n hx hb dX7_unpack_11 rfl (lv_at hl 0 rfl) ?_
  refine lv_iadd hx hb dX7_unpack_12 ?_
  refine kr_topi (y := nI (az + 2)) (nI_add az 2) ?_
  refine kr_laldN hx hb hK hP tc 2 (by omega) (R_la htc _ _ _ _) rfl (j := (az + 2)) (by omega) (lenL_lt tc) dX7_unpack_13 ?_
  refine kr_callVv (As := [.int 2, .long ((n_oTunp (m_oTunp iv 0 (lv tc (az + 0))) (n_oTunp iv lv 0 (lv tc (az + 0))) 1 ((n_oTunp iv lv 0 (lv tc (az + 0))) tc (az + 1))) tc (az + 2))]) (rest := []) ⟨hx, hb, hml, hown, hts⟩ (c_oTunp l D gc ad ln (m_oTunp (m_oTunp iv 0 (lv tc (az + 0))) 1 ((n_oTunp iv lv 0 (lv tc (az + 0))) tc (az + 1))) (n_oTunp (m_oTunp iv 0 (lv tc (az + 0))) (n_oTunp iv lv 0 (lv tc (az + 0))) 1 ((n_oTunp iv lv 0 (lv tc (az + 0))) tc (az + 1))) 2 (by decide) ((n_oTunp (m_oTunp iv 0 (lv tc (az + 0))) (n_oTunp iv lv 0 (lv tc (az + 0))) 1 ((n_oTunp iv lv 0 (lv tc (az + 0))) tc (az + 1))) tc (az + 2))) (cwV 2 hts (goodV (fun _ h => tcons h) tw_674 tw_676 ts_29 tw_8 tw_677) rfl rfl rfl (by decide +kernel) ⟨Nat.le_of_ble_eq_true rfl, Nat.le_of_ble_eq_true rfl⟩) (kr_recv hK hP 0 (by decide) (R_0 _ _ _ _) rfl) hK hP hD hS hA rfl hl.1 rfl (Nat.le_of_ble_eq_true rfl) dX7_unpack_14 ⟨Nat.le_of_ble_eq_true rfl, Nat.le_of_ble_eq_true rfl⟩ (fun H locs hP hD hS => ?_)
  refine lv_iinc (v := 3) (lv' := [(3, .int 3), (0, .ref (ad 0)), (1, .ref (ad (tc))), (2, .int (nI az))]) hx hb dX7_unpack_17 hl (k := 0) rfl (by decide) (by decide) rfl (fun ls hl => ?_)
  refine lv_goto (tgt := 2) hx hb dX7_unpack_20 (by decide) ?_
  refine lv_iload_n hx hb dX7_unpack_2 rfl (lv_at hl 0 rfl) ?_
  refine lv_iconst (v := 4) hx hb dX7_unpack_3 (by decide) ?_
  refine lv_icmp_ge (tgt := 23) hx hb dX7_unpack_4 (by decide) (fun c_4 => absurd c_4 (by decide)) (fun c_4 => ?_)
  refine lv_aload_n hx hb dX7_unpack_7 rfl (lv_at hl 1 rfl) ?_
  refine lv_iload_n hx hb dX7_unpack_8 rfl (lv_at hl 0 rfl) ?_
  refine lv_aload_n hx hb dX7_unpack_9 rfl (lv_at hl 2 rfl) ?_
  refine lv_iload_n hx hb dX7_unpack_10 rfl (lv_at hl 3 rfl) ?_
  refine lv_iload_n hx hb dX7_unpack_11 rfl (lv_at hl 0 rfl) ?_
  refine lv_iadd hx hb dX7_unpack_12 ?_
  refine kr_topi (y := nI (az + 3)) (nI_add az 3) ?_
  refine kr_laldN hx hb hK hP tc 2 (by omega) (R_la htc _ _ _ _) rfl (j := (az + 3)) (by omega) (lenL_lt tc) dX7_unpack_13 ?_
  refine kr_callVv (As := [.int 3, .long ((n_oTunp (m_oTunp (m_oTunp iv 0 (lv tc (az + 0))) 1 ((n_oTunp iv lv 0 (lv tc (az + 0))) tc (az + 1))) (n_oTunp (m_oTunp iv 0 (lv tc (az + 0))) (n_oTunp iv lv 0 (lv tc (az + 0))) 1 ((n_oTunp iv lv 0 (lv tc (az + 0))) tc (az + 1))) 2 ((n_oTunp (m_oTunp iv 0 (lv tc (az + 0))) (n_oTunp iv lv 0 (lv tc (az + 0))) 1 ((n_oTunp iv lv 0 (lv tc (az + 0))) tc (az + 1))) tc (az + 2))) tc (az + 3))]) (rest := []) ⟨hx, hb, hml, hown, hts⟩ (c_oTunp l D gc ad ln (m_oTunp (m_oTunp (m_oTunp iv 0 (lv tc (az + 0))) 1 ((n_oTunp iv lv 0 (lv tc (az + 0))) tc (az + 1))) 2 ((n_oTunp (m_oTunp iv 0 (lv tc (az + 0))) (n_oTunp iv lv 0 (lv tc (az + 0))) 1 ((n_oTunp iv lv 0 (lv tc (az + 0))) tc (az + 1))) tc (az + 2))) (n_oTunp (m_oTunp (m_oTunp iv 0 (lv tc (az + 0))) 1 ((n_oTunp iv lv 0 (lv tc (az + 0))) tc (az + 1))) (n_oTunp (m_oTunp iv 0 (lv tc (az + 0))) (n_oTunp iv lv 0 (lv tc (az + 0))) 1 ((n_oTunp iv lv 0 (lv tc (az + 0))) tc (az + 1))) 2 ((n_oTunp (m_oTunp iv 0 (lv tc (az + 0))) (n_oTunp iv lv 0 (lv tc (az + 0))) 1 ((n_oTunp iv lv 0 (lv tc (az + 0))) tc (az + 1))) tc (az + 2))) 3 (by decide) ((n_oTunp (m_oTunp (m_oTunp iv 0 (lv tc (az + 0))) 1 ((n_oTunp iv lv 0 (lv tc (az + 0))) tc (az + 1))) (n_oTunp (m_oTunp iv 0 (lv tc (az + 0))) (n_oTunp iv lv 0 (lv tc (az + 0))) 1 ((n_oTunp iv lv 0 (lv tc (az + 0))) tc (az + 1))) 2 ((n_oTunp (m_oTunp iv 0 (lv tc (az + 0))) (n_oTunp iv lv 0 (lv tc (az + 0))) 1 ((n_oTunp iv lv 0 (lv tc (az + 0))) tc (az + 1))) tc (az + 2))) tc (az + 3))) (cwV 2 hts (goodV (fun _ h => tcons h) tw_674 tw_676 ts_29 tw_8 tw_677) rfl rfl rfl (by decide +kernel) ⟨Nat.le_of_ble_eq_true rfl, Nat.le_of_ble_eq_true rfl⟩) (kr_recv hK hP 0 (by decide) (R_0 _ _ _ _) rfl) hK hP hD hS hA rfl hl.1 rfl (Nat.le_of_ble_eq_true rfl) dX7_unpack_14 ⟨Nat.le_of_ble_eq_true rfl, Nat.le_of_ble_eq_true rfl⟩ (fun H locs hP hD hS => ?_)
  refine lv_iinc (v := 4) (lv' := [(3, .int 4), (0, .ref (ad 0)), (1, .ref (ad (tc))), (2, .int (nI az))]) hx hb dX7_unpack_17 hl (k := 0) rfl (by decide) (by decide) rfl (fun ls hl => ?_)
  refine lv_goto (tgt := 2) hx hb dX7_unpack_20 (by decide) ?_
  refine lv_iload_n hx hb dX7_unpack_2 rfl (lv_at hl 0 rfl) ?_
  refine lv_iconst (v := 4) hx hb dX7_unpack_3 (by decide) ?_
  refine lv_icmp_ge (tgt := 23) hx hb dX7_unpack_4 (by decide) (fun c_5 => ?_) (fun c_5 => absurd (by decide) c_5)
  refine lv_aload_n hx hb dX7_unpack_23 rfl (lv_at hl 2 rfl) ?_
  refine lv_iload_n hx hb dX7_unpack_24 rfl (lv_at hl 3 rfl) ?_
  refine lv_iconst (v := 4) hx hb dX7_unpack_25 (by decide) ?_
  refine lv_iadd hx hb dX7_unpack_26 ?_
  refine kr_topi (y := nI (az + 4)) (nI_add az 4) ?_
  refine kr_laldN hx hb hK hP tc 2 (by omega) (R_la htc _ _ _ _) rfl (j := (az + 4)) (by omega) (lenL_lt tc) dX7_unpack_27 ?_
  refine lv_lstore_n (lv' := [(3, .long ((n_oTunp (m_oTunp (m_oTunp (m_oTunp iv 0 (lv tc (az + 0))) 1 ((n_oTunp iv lv 0 (lv tc (az + 0))) tc (az + 1))) 2 ((n_oTunp (m_oTunp iv 0 (lv tc (az + 0))) (n_oTunp iv lv 0 (lv tc (az + 0))) 1 ((n_oTunp iv lv 0 (lv tc (az + 0))) tc (az + 1))) tc (az + 2))) (n_oTunp (m_oTunp (m_oTunp iv 0 (lv tc (az + 0))) 1 ((n_oTunp iv lv 0 (lv tc (az + 0))) tc (az + 1))) (n_oTunp (m_oTunp iv 0 (lv tc (az + 0))) (n_oTunp iv lv 0 (lv tc (az + 0))) 1 ((n_oTunp iv lv 0 (lv tc (az + 0))) tc (az + 1))) 2 ((n_oTunp (m_oTunp iv 0 (lv tc (az + 0))) (n_oTunp iv lv 0 (lv tc (az + 0))) 1 ((n_oTunp iv lv 0 (lv tc (az + 0))) tc (az + 1))) tc (az + 2))) 3 ((n_oTunp (m_oTunp (m_oTunp iv 0 (lv tc (az + 0))) 1 ((n_oTunp iv lv 0 (lv tc (az + 0))) tc (az + 1))) (n_oTunp (m_oTunp iv 0 (lv tc (az + 0))) (n_oTunp iv lv 0 (lv tc (az + 0))) 1 ((n_oTunp iv lv 0 (lv tc (az + 0))) tc (az + 1))) 2 ((n_oTunp (m_oTunp iv 0 (lv tc (az + 0))) (n_oTunp iv lv 0 (lv tc (az + 0))) 1 ((n_oTunp iv lv 0 (lv tc (az + 0))) tc (az + 1))) tc (az + 2))) tc (az + 3))) tc (az + 4))), (0, .ref (ad 0)), (1, .ref (ad (tc))), (2, .int (nI az))]) hx hb dX7_unpack_28 rfl hl (by decide) rfl (fun ls hl => ?_)
  refine lv_iconst (v := 1) hx hb dX7_unpack_29 (by decide) ?_
  refine lv_istore (lv' := [(5, .int 1), (3, .long ((n_oTunp (m_oTunp (m_oTunp (m_oTunp iv 0 (lv tc (az + 0))) 1 ((n_oTunp iv lv 0 (lv tc (az + 0))) tc (az + 1))) 2 ((n_oTunp (m_oTunp iv 0 (lv tc (az + 0))) (n_oTunp iv lv 0 (lv tc (az + 0))) 1 ((n_oTunp iv lv 0 (lv tc (az + 0))) tc (az + 1))) tc (az + 2))) (n_oTunp (m_oTunp (m_oTunp iv 0 (lv tc (az + 0))) 1 ((n_oTunp iv lv 0 (lv tc (az + 0))) tc (az + 1))) (n_oTunp (m_oTunp iv 0 (lv tc (az + 0))) (n_oTunp iv lv 0 (lv tc (az + 0))) 1 ((n_oTunp iv lv 0 (lv tc (az + 0))) tc (az + 1))) 2 ((n_oTunp (m_oTunp iv 0 (lv tc (az + 0))) (n_oTunp iv lv 0 (lv tc (az + 0))) 1 ((n_oTunp iv lv 0 (lv tc (az + 0))) tc (az + 1))) tc (az + 2))) 3 ((n_oTunp (m_oTunp (m_oTunp iv 0 (lv tc (az + 0))) 1 ((n_oTunp iv lv 0 (lv tc (az + 0))) tc (az + 1))) (n_oTunp (m_oTunp iv 0 (lv tc (az + 0))) (n_oTunp iv lv 0 (lv tc (az + 0))) 1 ((n_oTunp iv lv 0 (lv tc (az + 0))) tc (az + 1))) 2 ((n_oTunp (m_oTunp iv 0 (lv tc (az + 0))) (n_oTunp iv lv 0 (lv tc (az + 0))) 1 ((n_oTunp iv lv 0 (lv tc (az + 0))) tc (az + 1))) tc (az + 2))) tc (az + 3))) tc (az + 4))), (0, .ref (ad 0)), (1, .ref (ad (tc))), (2, .int (nI az))]) hx hb dX7_unpack_30 hl (by decide) rfl (fun ls hl => ?_)
  refine lv_iload hx hb dX7_unpack_32 (lv_at hl 0 rfl) ?_
  refine lv_if_lt (tgt := 125) hx hb dX7_unpack_34 (by decide) (fun c_6 => absurd c_6 (by decide)) (fun c_6 => ?_)
  refine lv_iconst (v := 3) hx hb dX7_unpack_37 (by decide) ?_
  refine lv_istore (lv' := [(6, .int 3), (5, .int 1), (3, .long ((n_oTunp (m_oTunp (m_oTunp (m_oTunp iv 0 (lv tc (az + 0))) 1 ((n_oTunp iv lv 0 (lv tc (az + 0))) tc (az + 1))) 2 ((n_oTunp (m_oTunp iv 0 (lv tc (az + 0))) (n_oTunp iv lv 0 (lv tc (az + 0))) 1 ((n_oTunp iv lv 0 (lv tc (az + 0))) tc (az + 1))) tc (az + 2))) (n_oTunp (m_oTunp (m_oTunp iv 0 (lv tc (az + 0))) 1 ((n_oTunp iv lv 0 (lv tc (az + 0))) tc (az + 1))) (n_oTunp (m_oTunp iv 0 (lv tc (az + 0))) (n_oTunp iv lv 0 (lv tc (az + 0))) 1 ((n_oTunp iv lv 0 (lv tc (az + 0))) tc (az + 1))) 2 ((n_oTunp (m_oTunp iv 0 (lv tc (az + 0))) (n_oTunp iv lv 0 (lv tc (az + 0))) 1 ((n_oTunp iv lv 0 (lv tc (az + 0))) tc (az + 1))) tc (az + 2))) 3 ((n_oTunp (m_oTunp (m_oTunp iv 0 (lv tc (az + 0))) 1 ((n_oTunp iv lv 0 (lv tc (az + 0))) tc (az + 1))) (n_oTunp (m_oTunp iv 0 (lv tc (az + 0))) (n_oTunp iv lv 0 (lv tc (az + 0))) 1 ((n_oTunp iv lv 0 (lv tc (az + 0))) tc (az + 1))) 2 ((n_oTunp (m_oTunp iv 0 (lv tc (az + 0))) (n_oTunp iv lv 0 (lv tc (az + 0))) 1 ((n_oTunp iv lv 0 (lv tc (az + 0))) tc (az + 1))) tc (az + 2))) tc (az + 3))) tc (az + 4))), (0, .ref (ad 0)), (1, .ref (ad (tc))), (2, .int (nI az))]) hx hb dX7_unpack_38 hl (by decide) rfl (fun ls hl => ?_)
  refine lv_iload hx hb dX7_unpack_40 (lv_at hl 0 rfl) ?_
  refine lv_if_lt (tgt := 71) hx hb dX7_unpack_42 (by decide) (fun c_7 => absurd c_7 (by decide)) (fun c_7 => ?_)
  refine lv_aload_n hx hb dX7_unpack_45 rfl (lv_at hl 3 rfl) ?_
  refine kr_get (C := "MonitorWaysModel") (T := TX7) (N := 27) hx hb hts hin_X7 hown hK hP 0 (by decide) (R_0 _ _ _ _) rfl 15 (by decide) lk_f54 (fun _ h9 => h9) rfl dX7_unpack_46 ?_
  refine lv_iconst (v := 4) hx hb dX7_unpack_49 (by decide) ?_
  refine lv_iload hx hb dX7_unpack_50 (lv_at hl 1 rfl) ?_
  refine lv_imul hx hb dX7_unpack_52 ?_
  refine kr_topi (y := 4) (by decide) ?_
  refine lv_iload hx hb dX7_unpack_53 (lv_at hl 0 rfl) ?_
  refine lv_iadd hx hb dX7_unpack_55 ?_
  refine kr_topi (y := 7) (by decide) ?_
  refine lv_lload_n hx hb dX7_unpack_56 rfl (lv_at hl 2 rfl) ?_
  refine lv_l2i hx hb dX7_unpack_57 rfl ?_
  refine lv_iconst (v := 3) hx hb dX7_unpack_58 (by decide) ?_
  refine lv_iand hx hb dX7_unpack_59 ?_
  refine kr_iastN hx hb hK hP hD hS 15 0 (by decide) (fun _ => R_15 _ _ _ _) rfl (j := 7) (by decide) (by decide) dX7_unpack_60 (fun H locs hP hD hS => ?_)
  refine lv_lload_n hx hb dX7_unpack_61 rfl (lv_at hl 2 rfl) ?_
  refine lv_iconst (v := 2) hx hb dX7_unpack_62 (by decide) ?_
  refine lv_lshr hx hb dX7_unpack_63 rfl ?_
  refine lv_lstore_n (lv' := [(3, .long (((n_oTunp (m_oTunp (m_oTunp (m_oTunp iv 0 (lv tc (az + 0))) 1 ((n_oTunp iv lv 0 (lv tc (az + 0))) tc (az + 1))) 2 ((n_oTunp (m_oTunp iv 0 (lv tc (az + 0))) (n_oTunp iv lv 0 (lv tc (az + 0))) 1 ((n_oTunp iv lv 0 (lv tc (az + 0))) tc (az + 1))) tc (az + 2))) (n_oTunp (m_oTunp (m_oTunp iv 0 (lv tc (az + 0))) 1 ((n_oTunp iv lv 0 (lv tc (az + 0))) tc (az + 1))) (n_oTunp (m_oTunp iv 0 (lv tc (az + 0))) (n_oTunp iv lv 0 (lv tc (az + 0))) 1 ((n_oTunp iv lv 0 (lv tc (az + 0))) tc (az + 1))) 2 ((n_oTunp (m_oTunp iv 0 (lv tc (az + 0))) (n_oTunp iv lv 0 (lv tc (az + 0))) 1 ((n_oTunp iv lv 0 (lv tc (az + 0))) tc (az + 1))) tc (az + 2))) 3 ((n_oTunp (m_oTunp (m_oTunp iv 0 (lv tc (az + 0))) 1 ((n_oTunp iv lv 0 (lv tc (az + 0))) tc (az + 1))) (n_oTunp (m_oTunp iv 0 (lv tc (az + 0))) (n_oTunp iv lv 0 (lv tc (az + 0))) 1 ((n_oTunp iv lv 0 (lv tc (az + 0))) tc (az + 1))) 2 ((n_oTunp (m_oTunp iv 0 (lv tc (az + 0))) (n_oTunp iv lv 0 (lv tc (az + 0))) 1 ((n_oTunp iv lv 0 (lv tc (az + 0))) tc (az + 1))) tc (az + 2))) tc (az + 3))) tc (az + 4)) >>> ((2 : Int32).toInt64 &&& 63))), (6, .int 3), (5, .int 1), (0, .ref (ad 0)), (1, .ref (ad (tc))), (2, .int (nI az))]) hx hb dX7_unpack_64 rfl hl (by decide) rfl (fun ls hl => ?_)
  refine lv_iinc (v := 2) (lv' := [(6, .int 2), (3, .long (((n_oTunp (m_oTunp (m_oTunp (m_oTunp iv 0 (lv tc (az + 0))) 1 ((n_oTunp iv lv 0 (lv tc (az + 0))) tc (az + 1))) 2 ((n_oTunp (m_oTunp iv 0 (lv tc (az + 0))) (n_oTunp iv lv 0 (lv tc (az + 0))) 1 ((n_oTunp iv lv 0 (lv tc (az + 0))) tc (az + 1))) tc (az + 2))) (n_oTunp (m_oTunp (m_oTunp iv 0 (lv tc (az + 0))) 1 ((n_oTunp iv lv 0 (lv tc (az + 0))) tc (az + 1))) (n_oTunp (m_oTunp iv 0 (lv tc (az + 0))) (n_oTunp iv lv 0 (lv tc (az + 0))) 1 ((n_oTunp iv lv 0 (lv tc (az + 0))) tc (az + 1))) 2 ((n_oTunp (m_oTunp iv 0 (lv tc (az + 0))) (n_oTunp iv lv 0 (lv tc (az + 0))) 1 ((n_oTunp iv lv 0 (lv tc (az + 0))) tc (az + 1))) tc (az + 2))) 3 ((n_oTunp (m_oTunp (m_oTunp iv 0 (lv tc (az + 0))) 1 ((n_oTunp iv lv 0 (lv tc (az + 0))) tc (az + 1))) (n_oTunp (m_oTunp iv 0 (lv tc (az + 0))) (n_oTunp iv lv 0 (lv tc (az + 0))) 1 ((n_oTunp iv lv 0 (lv tc (az + 0))) tc (az + 1))) 2 ((n_oTunp (m_oTunp iv 0 (lv tc (az + 0))) (n_oTunp iv lv 0 (lv tc (az + 0))) 1 ((n_oTunp iv lv 0 (lv tc (az + 0))) tc (az + 1))) tc (az + 2))) tc (az + 3))) tc (az + 4)) >>> ((2 : Int32).toInt64 &&& 63))), (5, .int 1), (0, .ref (ad 0)), (1, .ref (ad (tc))), (2, .int (nI az))]) hx hb dX7_unpack_65 hl (k := 1) rfl (by decide) (by decide) rfl (fun ls hl => ?_)
  refine lv_goto (tgt := 40) hx hb dX7_unpack_68 (by decide) ?_
  refine lv_iload hx hb dX7_unpack_40 (lv_at hl 0 rfl) ?_
  refine lv_if_lt (tgt := 71) hx hb dX7_unpack_42 (by decide) (fun c_8 => absurd c_8 (by decide)) (fun c_8 => ?_)
  refine lv_aload_n hx hb dX7_unpack_45 rfl (lv_at hl 3 rfl) ?_
  refine kr_get (C := "MonitorWaysModel") (T := TX7) (N := 27) hx hb hts hin_X7 hown hK hP 0 (by decide) (R_0 _ _ _ _) rfl 15 (by decide) lk_f54 (fun _ h9 => h9) rfl dX7_unpack_46 ?_
  refine lv_iconst (v := 4) hx hb dX7_unpack_49 (by decide) ?_
  refine lv_iload hx hb dX7_unpack_50 (lv_at hl 2 rfl) ?_
  refine lv_imul hx hb dX7_unpack_52 ?_
  refine kr_topi (y := 4) (by decide) ?_
  refine lv_iload hx hb dX7_unpack_53 (lv_at hl 0 rfl) ?_
  refine lv_iadd hx hb dX7_unpack_55 ?_
  refine kr_topi (y := 6) (by decide) ?_
  refine lv_lload_n hx hb dX7_unpack_56 rfl (lv_at hl 1 rfl) ?_
  refine lv_l2i hx hb dX7_unpack_57 rfl ?_
  refine lv_iconst (v := 3) hx hb dX7_unpack_58 (by decide) ?_
  refine lv_iand hx hb dX7_unpack_59 ?_
  refine kr_iastN hx hb hK hP hD hS 15 0 (by decide) (fun _ => R_15 _ _ _ _) rfl (j := 6) (by decide) (by decide) dX7_unpack_60 (fun H locs hP hD hS => ?_)
  refine lv_lload_n hx hb dX7_unpack_61 rfl (lv_at hl 1 rfl) ?_
  refine lv_iconst (v := 2) hx hb dX7_unpack_62 (by decide) ?_
  refine lv_lshr hx hb dX7_unpack_63 rfl ?_
  refine lv_lstore_n (lv' := [(3, .long ((((n_oTunp (m_oTunp (m_oTunp (m_oTunp iv 0 (lv tc (az + 0))) 1 ((n_oTunp iv lv 0 (lv tc (az + 0))) tc (az + 1))) 2 ((n_oTunp (m_oTunp iv 0 (lv tc (az + 0))) (n_oTunp iv lv 0 (lv tc (az + 0))) 1 ((n_oTunp iv lv 0 (lv tc (az + 0))) tc (az + 1))) tc (az + 2))) (n_oTunp (m_oTunp (m_oTunp iv 0 (lv tc (az + 0))) 1 ((n_oTunp iv lv 0 (lv tc (az + 0))) tc (az + 1))) (n_oTunp (m_oTunp iv 0 (lv tc (az + 0))) (n_oTunp iv lv 0 (lv tc (az + 0))) 1 ((n_oTunp iv lv 0 (lv tc (az + 0))) tc (az + 1))) 2 ((n_oTunp (m_oTunp iv 0 (lv tc (az + 0))) (n_oTunp iv lv 0 (lv tc (az + 0))) 1 ((n_oTunp iv lv 0 (lv tc (az + 0))) tc (az + 1))) tc (az + 2))) 3 ((n_oTunp (m_oTunp (m_oTunp iv 0 (lv tc (az + 0))) 1 ((n_oTunp iv lv 0 (lv tc (az + 0))) tc (az + 1))) (n_oTunp (m_oTunp iv 0 (lv tc (az + 0))) (n_oTunp iv lv 0 (lv tc (az + 0))) 1 ((n_oTunp iv lv 0 (lv tc (az + 0))) tc (az + 1))) 2 ((n_oTunp (m_oTunp iv 0 (lv tc (az + 0))) (n_oTunp iv lv 0 (lv tc (az + 0))) 1 ((n_oTunp iv lv 0 (lv tc (az + 0))) tc (az + 1))) tc (az + 2))) tc (az + 3))) tc (az + 4)) >>> ((2 : Int32).toInt64 &&& 63)) >>> ((2 : Int32).toInt64 &&& 63))), (6, .int 2), (5, .int 1), (0, .ref (ad 0)), (1, .ref (ad (tc))), (2, .int (nI az))]) hx hb dX7_unpack_64 rfl hl (by decide) rfl (fun ls hl => ?_)
  refine lv_iinc (v := 1) (lv' := [(6, .int 1), (3, .long ((((n_oTunp (m_oTunp (m_oTunp (m_oTunp iv 0 (lv tc (az + 0))) 1 ((n_oTunp iv lv 0 (lv tc (az + 0))) tc (az + 1))) 2 ((n_oTunp (m_oTunp iv 0 (lv tc (az + 0))) (n_oTunp iv lv 0 (lv tc (az + 0))) 1 ((n_oTunp iv lv 0 (lv tc (az + 0))) tc (az + 1))) tc (az + 2))) (n_oTunp (m_oTunp (m_oTunp iv 0 (lv tc (az + 0))) 1 ((n_oTunp iv lv 0 (lv tc (az + 0))) tc (az + 1))) (n_oTunp (m_oTunp iv 0 (lv tc (az + 0))) (n_oTunp iv lv 0 (lv tc (az + 0))) 1 ((n_oTunp iv lv 0 (lv tc (az + 0))) tc (az + 1))) 2 ((n_oTunp (m_oTunp iv 0 (lv tc (az + 0))) (n_oTunp iv lv 0 (lv tc (az + 0))) 1 ((n_oTunp iv lv 0 (lv tc (az + 0))) tc (az + 1))) tc (az + 2))) 3 ((n_oTunp (m_oTunp (m_oTunp iv 0 (lv tc (az + 0))) 1 ((n_oTunp iv lv 0 (lv tc (az + 0))) tc (az + 1))) (n_oTunp (m_oTunp iv 0 (lv tc (az + 0))) (n_oTunp iv lv 0 (lv tc (az + 0))) 1 ((n_oTunp iv lv 0 (lv tc (az + 0))) tc (az + 1))) 2 ((n_oTunp (m_oTunp iv 0 (lv tc (az + 0))) (n_oTunp iv lv 0 (lv tc (az + 0))) 1 ((n_oTunp iv lv 0 (lv tc (az + 0))) tc (az + 1))) tc (az + 2))) tc (az + 3))) tc (az + 4)) >>> ((2 : Int32).toInt64 &&& 63)) >>> ((2 : Int32).toInt64 &&& 63))), (5, .int 1), (0, .ref (ad 0)), (1, .ref (ad (tc))), (2, .int (nI az))]) hx hb dX7_unpack_65 hl (k := 1) rfl (by decide) (by decide) rfl (fun ls hl => ?_)
  refine lv_goto (tgt := 40) hx hb dX7_unpack_68 (by decide) ?_
  refine lv_iload hx hb dX7_unpack_40 (lv_at hl 0 rfl) ?_
  refine lv_if_lt (tgt := 71) hx hb dX7_unpack_42 (by decide) (fun c_9 => absurd c_9 (by decide)) (fun c_9 => ?_)
  refine lv_aload_n hx hb dX7_unpack_45 rfl (lv_at hl 3 rfl) ?_
  refine kr_get (C := "MonitorWaysModel") (T := TX7) (N := 27) hx hb hts hin_X7 hown hK hP 0 (by decide) (R_0 _ _ _ _) rfl 15 (by decide) lk_f54 (fun _ h9 => h9) rfl dX7_unpack_46 ?_
  refine lv_iconst (v := 4) hx hb dX7_unpack_49 (by decide) ?_
  refine lv_iload hx hb dX7_unpack_50 (lv_at hl 2 rfl) ?_
  refine lv_imul hx hb dX7_unpack_52 ?_
  refine kr_topi (y := 4) (by decide) ?_
  refine lv_iload hx hb dX7_unpack_53 (lv_at hl 0 rfl) ?_
  refine lv_iadd hx hb dX7_unpack_55 ?_
  refine kr_topi (y := 5) (by decide) ?_
  refine lv_lload_n hx hb dX7_unpack_56 rfl (lv_at hl 1 rfl) ?_
  refine lv_l2i hx hb dX7_unpack_57 rfl ?_
  refine lv_iconst (v := 3) hx hb dX7_unpack_58 (by decide) ?_
  refine lv_iand hx hb dX7_unpack_59 ?_
  refine kr_iastN hx hb hK hP hD hS 15 0 (by decide) (fun _ => R_15 _ _ _ _) rfl (j := 5) (by decide) (by decide) dX7_unpack_60 (fun H locs hP hD hS => ?_)
  refine lv_lload_n hx hb dX7_unpack_61 rfl (lv_at hl 1 rfl) ?_
  refine lv_iconst (v := 2) hx hb dX7_unpack_62 (by decide) ?_
  refine lv_lshr hx hb dX7_unpack_63 rfl ?_
  refine lv_lstore_n (lv' := [(3, .long (((((n_oTunp (m_oTunp (m_oTunp (m_oTunp iv 0 (lv tc (az + 0))) 1 ((n_oTunp iv lv 0 (lv tc (az + 0))) tc (az + 1))) 2 ((n_oTunp (m_oTunp iv 0 (lv tc (az + 0))) (n_oTunp iv lv 0 (lv tc (az + 0))) 1 ((n_oTunp iv lv 0 (lv tc (az + 0))) tc (az + 1))) tc (az + 2))) (n_oTunp (m_oTunp (m_oTunp iv 0 (lv tc (az + 0))) 1 ((n_oTunp iv lv 0 (lv tc (az + 0))) tc (az + 1))) (n_oTunp (m_oTunp iv 0 (lv tc (az + 0))) (n_oTunp iv lv 0 (lv tc (az + 0))) 1 ((n_oTunp iv lv 0 (lv tc (az + 0))) tc (az + 1))) 2 ((n_oTunp (m_oTunp iv 0 (lv tc (az + 0))) (n_oTunp iv lv 0 (lv tc (az + 0))) 1 ((n_oTunp iv lv 0 (lv tc (az + 0))) tc (az + 1))) tc (az + 2))) 3 ((n_oTunp (m_oTunp (m_oTunp iv 0 (lv tc (az + 0))) 1 ((n_oTunp iv lv 0 (lv tc (az + 0))) tc (az + 1))) (n_oTunp (m_oTunp iv 0 (lv tc (az + 0))) (n_oTunp iv lv 0 (lv tc (az + 0))) 1 ((n_oTunp iv lv 0 (lv tc (az + 0))) tc (az + 1))) 2 ((n_oTunp (m_oTunp iv 0 (lv tc (az + 0))) (n_oTunp iv lv 0 (lv tc (az + 0))) 1 ((n_oTunp iv lv 0 (lv tc (az + 0))) tc (az + 1))) tc (az + 2))) tc (az + 3))) tc (az + 4)) >>> ((2 : Int32).toInt64 &&& 63)) >>> ((2 : Int32).toInt64 &&& 63)) >>> ((2 : Int32).toInt64 &&& 63))), (6, .int 1), (5, .int 1), (0, .ref (ad 0)), (1, .ref (ad (tc))), (2, .int (nI az))]) hx hb dX7_unpack_64 rfl hl (by decide) rfl (fun ls hl => ?_)
  refine lv_iinc (v := 0) (lv' := [(6, .int 0), (3, .long (((((n_oTunp (m_oTunp (m_oTunp (m_oTunp iv 0 (lv tc (az + 0))) 1 ((n_oTunp iv lv 0 (lv tc (az + 0))) tc (az + 1))) 2 ((n_oTunp (m_oTunp iv 0 (lv tc (az + 0))) (n_oTunp iv lv 0 (lv tc (az + 0))) 1 ((n_oTunp iv lv 0 (lv tc (az + 0))) tc (az + 1))) tc (az + 2))) (n_oTunp (m_oTunp (m_oTunp iv 0 (lv tc (az + 0))) 1 ((n_oTunp iv lv 0 (lv tc (az + 0))) tc (az + 1))) (n_oTunp (m_oTunp iv 0 (lv tc (az + 0))) (n_oTunp iv lv 0 (lv tc (az + 0))) 1 ((n_oTunp iv lv 0 (lv tc (az + 0))) tc (az + 1))) 2 ((n_oTunp (m_oTunp iv 0 (lv tc (az + 0))) (n_oTunp iv lv 0 (lv tc (az + 0))) 1 ((n_oTunp iv lv 0 (lv tc (az + 0))) tc (az + 1))) tc (az + 2))) 3 ((n_oTunp (m_oTunp (m_oTunp iv 0 (lv tc (az + 0))) 1 ((n_oTunp iv lv 0 (lv tc (az + 0))) tc (az + 1))) (n_oTunp (m_oTunp iv 0 (lv tc (az + 0))) (n_oTunp iv lv 0 (lv tc (az + 0))) 1 ((n_oTunp iv lv 0 (lv tc (az + 0))) tc (az + 1))) 2 ((n_oTunp (m_oTunp iv 0 (lv tc (az + 0))) (n_oTunp iv lv 0 (lv tc (az + 0))) 1 ((n_oTunp iv lv 0 (lv tc (az + 0))) tc (az + 1))) tc (az + 2))) tc (az + 3))) tc (az + 4)) >>> ((2 : Int32).toInt64 &&& 63)) >>> ((2 : Int32).toInt64 &&& 63)) >>> ((2 : Int32).toInt64 &&& 63))), (5, .int 1), (0, .ref (ad 0)), (1, .ref (ad (tc))), (2, .int (nI az))]) hx hb dX7_unpack_65 hl (k := 1) rfl (by decide) (by decide) rfl (fun ls hl => ?_)
  refine lv_goto (tgt := 40) hx hb dX7_unpack_68 (by decide) ?_
  refine lv_iload hx hb dX7_unpack_40 (lv_at hl 0 rfl) ?_
  refine lv_if_lt (tgt := 71) hx hb dX7_unpack_42 (by decide) (fun c_10 => absurd c_10 (by decide)) (fun c_10 => ?_)
  refine lv_aload_n hx hb dX7_unpack_45 rfl (lv_at hl 3 rfl) ?_
  refine kr_get (C := "MonitorWaysModel") (T := TX7) (N := 27) hx hb hts hin_X7 hown hK hP 0 (by decide) (R_0 _ _ _ _) rfl 15 (by decide) lk_f54 (fun _ h9 => h9) rfl dX7_unpack_46 ?_
  refine lv_iconst (v := 4) hx hb dX7_unpack_49 (by decide) ?_
  refine lv_iload hx hb dX7_unpack_50 (lv_at hl 2 rfl) ?_
  refine lv_imul hx hb dX7_unpack_52 ?_
  refine kr_topi (y := 4) (by decide) ?_
  refine lv_iload hx hb dX7_unpack_53 (lv_at hl 0 rfl) ?_
  refine lv_iadd hx hb dX7_unpack_55 ?_
  refine kr_topi (y := 4) (by decide) ?_
  refine lv_lload_n hx hb dX7_unpack_56 rfl (lv_at hl 1 rfl) ?_
  refine lv_l2i hx hb dX7_unpack_57 rfl ?_
  refine lv_iconst (v := 3) hx hb dX7_unpack_58 (by decide) ?_
  refine lv_iand hx hb dX7_unpack_59 ?_
  refine kr_iastN hx hb hK hP hD hS 15 0 (by decide) (fun _ => R_15 _ _ _ _) rfl (j := 4) (by decide) (by decide) dX7_unpack_60 (fun H locs hP hD hS => ?_)
  refine lv_lload_n hx hb dX7_unpack_61 rfl (lv_at hl 1 rfl) ?_
  refine lv_iconst (v := 2) hx hb dX7_unpack_62 (by decide) ?_
  refine lv_lshr hx hb dX7_unpack_63 rfl ?_
  refine lv_lstore_n (lv' := [(3, .long ((((((n_oTunp (m_oTunp (m_oTunp (m_oTunp iv 0 (lv tc (az + 0))) 1 ((n_oTunp iv lv 0 (lv tc (az + 0))) tc (az + 1))) 2 ((n_oTunp (m_oTunp iv 0 (lv tc (az + 0))) (n_oTunp iv lv 0 (lv tc (az + 0))) 1 ((n_oTunp iv lv 0 (lv tc (az + 0))) tc (az + 1))) tc (az + 2))) (n_oTunp (m_oTunp (m_oTunp iv 0 (lv tc (az + 0))) 1 ((n_oTunp iv lv 0 (lv tc (az + 0))) tc (az + 1))) (n_oTunp (m_oTunp iv 0 (lv tc (az + 0))) (n_oTunp iv lv 0 (lv tc (az + 0))) 1 ((n_oTunp iv lv 0 (lv tc (az + 0))) tc (az + 1))) 2 ((n_oTunp (m_oTunp iv 0 (lv tc (az + 0))) (n_oTunp iv lv 0 (lv tc (az + 0))) 1 ((n_oTunp iv lv 0 (lv tc (az + 0))) tc (az + 1))) tc (az + 2))) 3 ((n_oTunp (m_oTunp (m_oTunp iv 0 (lv tc (az + 0))) 1 ((n_oTunp iv lv 0 (lv tc (az + 0))) tc (az + 1))) (n_oTunp (m_oTunp iv 0 (lv tc (az + 0))) (n_oTunp iv lv 0 (lv tc (az + 0))) 1 ((n_oTunp iv lv 0 (lv tc (az + 0))) tc (az + 1))) 2 ((n_oTunp (m_oTunp iv 0 (lv tc (az + 0))) (n_oTunp iv lv 0 (lv tc (az + 0))) 1 ((n_oTunp iv lv 0 (lv tc (az + 0))) tc (az + 1))) tc (az + 2))) tc (az + 3))) tc (az + 4)) >>> ((2 : Int32).toInt64 &&& 63)) >>> ((2 : Int32).toInt64 &&& 63)) >>> ((2 : Int32).toInt64 &&& 63)) >>> ((2 : Int32).toInt64 &&& 63))), (6, .int 0), (5, .int 1), (0, .ref (ad 0)), (1, .ref (ad (tc))), (2, .int (nI az))]) hx hb dX7_unpack_64 rfl hl (by decide) rfl (fun ls hl => ?_)
  refine lv_iinc (v := (-1)) (lv' := [(6, .int (-1)), (3, .long ((((((n_oTunp (m_oTunp (m_oTunp (m_oTunp iv 0 (lv tc (az + 0))) 1 ((n_oTunp iv lv 0 (lv tc (az + 0))) tc (az + 1))) 2 ((n_oTunp (m_oTunp iv 0 (lv tc (az + 0))) (n_oTunp iv lv 0 (lv tc (az + 0))) 1 ((n_oTunp iv lv 0 (lv tc (az + 0))) tc (az + 1))) tc (az + 2))) (n_oTunp (m_oTunp (m_oTunp iv 0 (lv tc (az + 0))) 1 ((n_oTunp iv lv 0 (lv tc (az + 0))) tc (az + 1))) (n_oTunp (m_oTunp iv 0 (lv tc (az + 0))) (n_oTunp iv lv 0 (lv tc (az + 0))) 1 ((n_oTunp iv lv 0 (lv tc (az + 0))) tc (az + 1))) 2 ((n_oTunp (m_oTunp iv 0 (lv tc (az + 0))) (n_oTunp iv lv 0 (lv tc (az + 0))) 1 ((n_oTunp iv lv 0 (lv tc (az + 0))) tc (az + 1))) tc (az + 2))) 3 ((n_oTunp (m_oTunp (m_oTunp iv 0 (lv tc (az + 0))) 1 ((n_oTunp iv lv 0 (lv tc (az + 0))) tc (az + 1))) (n_oTunp (m_oTunp iv 0 (lv tc (az + 0))) (n_oTunp iv lv 0 (lv tc (az + 0))) 1 ((n_oTunp iv lv 0 (lv tc (az + 0))) tc (az + 1))) 2 ((n_oTunp (m_oTunp iv 0 (lv tc (az + 0))) (n_oTunp iv lv 0 (lv tc (az + 0))) 1 ((n_oTunp iv lv 0 (lv tc (az + 0))) tc (az + 1))) tc (az + 2))) tc (az + 3))) tc (az + 4)) >>> ((2 : Int32).toInt64 &&& 63)) >>> ((2 : Int32).toInt64 &&& 63)) >>> ((2 : Int32).toInt64 &&& 63)) >>> ((2 : Int32).toInt64 &&& 63))), (5, .int 1), (0, .ref (ad 0)), (1, .ref (ad (tc))), (2, .int (nI az))]) hx hb dX7_unpack_65 hl (k := 1) rfl (by decide) (by decide) rfl (fun ls hl => ?_)
  refine lv_goto (tgt := 40) hx hb dX7_unpack_68 (by decide) ?_
  refine lv_iload hx hb dX7_unpack_40 (lv_at hl 0 rfl) ?_
  refine lv_if_lt (tgt := 71) hx hb dX7_unpack_42 (by decide) (fun c_11 => ?_) (fun c_11 => absurd (by decide) c_11)
  refine lv_aload_n hx hb dX7_unpack_71 rfl (lv_at hl 3 rfl) ?_
  refine kr_get (C := "MonitorWaysModel") (T := TX7) (N := 27) hx hb hts hin_X7 hown hK hP 0 (by decide) (R_0 _ _ _ _) rfl 14 (by decide) lk_f51 (fun _ h9 => h9) rfl dX7_unpack_72 ?_
  refine lv_iload hx hb dX7_unpack_75 (lv_at hl 2 rfl) ?_
  refine lv_lload_n hx hb dX7_unpack_77 rfl (lv_at hl 1 rfl) ?_
  refine lv_l2i hx hb dX7_unpack_78 rfl ?_
  refine lv_bipush (v := 7) hx hb dX7_unpack_79 (by decide) ?_
  refine lv_iand hx hb dX7_unpack_81 ?_
  refine kr_iastN hx hb hK hP hD hS 14 0 (by decide) (fun _ => R_14 _ _ _ _) rfl (j := 1) (by decide) (by decide) dX7_unpack_82 (fun H locs hP hD hS => ?_)
  refine lv_aload_n hx hb dX7_unpack_83 rfl (lv_at hl 3 rfl) ?_
  refine kr_get (C := "MonitorWaysModel") (T := TX7) (N := 27) hx hb hts hin_X7 hown hK hP 0 (by decide) (R_0 _ _ _ _) rfl 13 (by decide) lk_f48 (fun _ h9 => h9) rfl dX7_unpack_84 ?_
  refine lv_iload hx hb dX7_unpack_87 (lv_at hl 2 rfl) ?_
  refine lv_lload_n hx hb dX7_unpack_89 rfl (lv_at hl 1 rfl) ?_
  refine lv_iconst (v := 3) hx hb dX7_unpack_90 (by decide) ?_
  refine lv_lshr hx hb dX7_unpack_91 rfl ?_
  refine lv_l2i hx hb dX7_unpack_92 rfl ?_
  refine lv_bipush (v := 7) hx hb dX7_unpack_93 (by decide) ?_
  refine lv_iand hx hb dX7_unpack_95 ?_
  refine kr_iastN hx hb hK hP hD hS 13 0 (by decide) (fun _ => R_13 _ _ _ _) rfl (j := 1) (by decide) (by decide) dX7_unpack_96 (fun H locs hP hD hS => ?_)
  refine lv_aload_n hx hb dX7_unpack_97 rfl (lv_at hl 3 rfl) ?_
  refine kr_get (C := "MonitorWaysModel") (T := TX7) (N := 27) hx hb hts hin_X7 hown hK hP 0 (by decide) (R_0 _ _ _ _) rfl 12 (by decide) lk_f45 (fun _ h9 => h9) rfl dX7_unpack_98 ?_
  refine lv_iload hx hb dX7_unpack_101 (lv_at hl 2 rfl) ?_
  refine lv_lload_n hx hb dX7_unpack_103 rfl (lv_at hl 1 rfl) ?_
  refine lv_bipush (v := 6) hx hb dX7_unpack_104 (by decide) ?_
  refine lv_lshr hx hb dX7_unpack_106 rfl ?_
  refine lv_l2i hx hb dX7_unpack_107 rfl ?_
  refine lv_bipush (v := 7) hx hb dX7_unpack_108 (by decide) ?_
  refine lv_iand hx hb dX7_unpack_110 ?_
  refine lv_iconst (v := 1) hx hb dX7_unpack_111 (by decide) ?_
  refine lv_isub hx hb dX7_unpack_112 ?_
  refine kr_iastN hx hb hK hP hD hS 12 0 (by decide) (fun _ => R_12 _ _ _ _) rfl (j := 1) (by decide) (by decide) dX7_unpack_113 (fun H locs hP hD hS => ?_)
  refine lv_lload_n hx hb dX7_unpack_114 rfl (lv_at hl 1 rfl) ?_
  refine lv_bipush (v := 9) hx hb dX7_unpack_115 (by decide) ?_
  refine lv_lshr hx hb dX7_unpack_117 rfl ?_
  refine lv_lstore_n (lv' := [(3, .long (((((((n_oTunp (m_oTunp (m_oTunp (m_oTunp iv 0 (lv tc (az + 0))) 1 ((n_oTunp iv lv 0 (lv tc (az + 0))) tc (az + 1))) 2 ((n_oTunp (m_oTunp iv 0 (lv tc (az + 0))) (n_oTunp iv lv 0 (lv tc (az + 0))) 1 ((n_oTunp iv lv 0 (lv tc (az + 0))) tc (az + 1))) tc (az + 2))) (n_oTunp (m_oTunp (m_oTunp iv 0 (lv tc (az + 0))) 1 ((n_oTunp iv lv 0 (lv tc (az + 0))) tc (az + 1))) (n_oTunp (m_oTunp iv 0 (lv tc (az + 0))) (n_oTunp iv lv 0 (lv tc (az + 0))) 1 ((n_oTunp iv lv 0 (lv tc (az + 0))) tc (az + 1))) 2 ((n_oTunp (m_oTunp iv 0 (lv tc (az + 0))) (n_oTunp iv lv 0 (lv tc (az + 0))) 1 ((n_oTunp iv lv 0 (lv tc (az + 0))) tc (az + 1))) tc (az + 2))) 3 ((n_oTunp (m_oTunp (m_oTunp iv 0 (lv tc (az + 0))) 1 ((n_oTunp iv lv 0 (lv tc (az + 0))) tc (az + 1))) (n_oTunp (m_oTunp iv 0 (lv tc (az + 0))) (n_oTunp iv lv 0 (lv tc (az + 0))) 1 ((n_oTunp iv lv 0 (lv tc (az + 0))) tc (az + 1))) 2 ((n_oTunp (m_oTunp iv 0 (lv tc (az + 0))) (n_oTunp iv lv 0 (lv tc (az + 0))) 1 ((n_oTunp iv lv 0 (lv tc (az + 0))) tc (az + 1))) tc (az + 2))) tc (az + 3))) tc (az + 4)) >>> ((2 : Int32).toInt64 &&& 63)) >>> ((2 : Int32).toInt64 &&& 63)) >>> ((2 : Int32).toInt64 &&& 63)) >>> ((2 : Int32).toInt64 &&& 63)) >>> ((9 : Int32).toInt64 &&& 63))), (6, .int (-1)), (5, .int 1), (0, .ref (ad 0)), (1, .ref (ad (tc))), (2, .int (nI az))]) hx hb dX7_unpack_118 rfl hl (by decide) rfl (fun ls hl => ?_)
  refine lv_iinc (v := 0) (lv' := [(5, .int 0), (3, .long (((((((n_oTunp (m_oTunp (m_oTunp (m_oTunp iv 0 (lv tc (az + 0))) 1 ((n_oTunp iv lv 0 (lv tc (az + 0))) tc (az + 1))) 2 ((n_oTunp (m_oTunp iv 0 (lv tc (az + 0))) (n_oTunp iv lv 0 (lv tc (az + 0))) 1 ((n_oTunp iv lv 0 (lv tc (az + 0))) tc (az + 1))) tc (az + 2))) (n_oTunp (m_oTunp (m_oTunp iv 0 (lv tc (az + 0))) 1 ((n_oTunp iv lv 0 (lv tc (az + 0))) tc (az + 1))) (n_oTunp (m_oTunp iv 0 (lv tc (az + 0))) (n_oTunp iv lv 0 (lv tc (az + 0))) 1 ((n_oTunp iv lv 0 (lv tc (az + 0))) tc (az + 1))) 2 ((n_oTunp (m_oTunp iv 0 (lv tc (az + 0))) (n_oTunp iv lv 0 (lv tc (az + 0))) 1 ((n_oTunp iv lv 0 (lv tc (az + 0))) tc (az + 1))) tc (az + 2))) 3 ((n_oTunp (m_oTunp (m_oTunp iv 0 (lv tc (az + 0))) 1 ((n_oTunp iv lv 0 (lv tc (az + 0))) tc (az + 1))) (n_oTunp (m_oTunp iv 0 (lv tc (az + 0))) (n_oTunp iv lv 0 (lv tc (az + 0))) 1 ((n_oTunp iv lv 0 (lv tc (az + 0))) tc (az + 1))) 2 ((n_oTunp (m_oTunp iv 0 (lv tc (az + 0))) (n_oTunp iv lv 0 (lv tc (az + 0))) 1 ((n_oTunp iv lv 0 (lv tc (az + 0))) tc (az + 1))) tc (az + 2))) tc (az + 3))) tc (az + 4)) >>> ((2 : Int32).toInt64 &&& 63)) >>> ((2 : Int32).toInt64 &&& 63)) >>> ((2 : Int32).toInt64 &&& 63)) >>> ((2 : Int32).toInt64 &&& 63)) >>> ((9 : Int32).toInt64 &&& 63))), (6, .int (-1)), (0, .ref (ad 0)), (1, .ref (ad (tc))), (2, .int (nI az))]) hx hb dX7_unpack_119 hl (k := 2) rfl (by decide) (by decide) rfl (fun ls hl => ?_)
  refine lv_goto (tgt := 32) hx hb dX7_unpack_122 (by decide) ?_
  refine lv_iload hx hb dX7_unpack_32 (lv_at hl 0 rfl) ?_
  refine lv_if_lt (tgt := 125) hx hb dX7_unpack_34 (by decide) (fun c_12 => absurd c_12 (by decide)) (fun c_12 => ?_)
  refine lv_iconst (v := 3) hx hb dX7_unpack_37 (by decide) ?_
  refine lv_istore (lv' := [(6, .int 3), (5, .int 0), (3, .long (((((((n_oTunp (m_oTunp (m_oTunp (m_oTunp iv 0 (lv tc (az + 0))) 1 ((n_oTunp iv lv 0 (lv tc (az + 0))) tc (az + 1))) 2 ((n_oTunp (m_oTunp iv 0 (lv tc (az + 0))) (n_oTunp iv lv 0 (lv tc (az + 0))) 1 ((n_oTunp iv lv 0 (lv tc (az + 0))) tc (az + 1))) tc (az + 2))) (n_oTunp (m_oTunp (m_oTunp iv 0 (lv tc (az + 0))) 1 ((n_oTunp iv lv 0 (lv tc (az + 0))) tc (az + 1))) (n_oTunp (m_oTunp iv 0 (lv tc (az + 0))) (n_oTunp iv lv 0 (lv tc (az + 0))) 1 ((n_oTunp iv lv 0 (lv tc (az + 0))) tc (az + 1))) 2 ((n_oTunp (m_oTunp iv 0 (lv tc (az + 0))) (n_oTunp iv lv 0 (lv tc (az + 0))) 1 ((n_oTunp iv lv 0 (lv tc (az + 0))) tc (az + 1))) tc (az + 2))) 3 ((n_oTunp (m_oTunp (m_oTunp iv 0 (lv tc (az + 0))) 1 ((n_oTunp iv lv 0 (lv tc (az + 0))) tc (az + 1))) (n_oTunp (m_oTunp iv 0 (lv tc (az + 0))) (n_oTunp iv lv 0 (lv tc (az + 0))) 1 ((n_oTunp iv lv 0 (lv tc (az + 0))) tc (az + 1))) 2 ((n_oTunp (m_oTunp iv 0 (lv tc (az + 0))) (n_oTunp iv lv 0 (lv tc (az + 0))) 1 ((n_oTunp iv lv 0 (lv tc (az + 0))) tc (az + 1))) tc (az + 2))) tc (az + 3))) tc (az + 4)) >>> ((2 : Int32).toInt64 &&& 63)) >>> ((2 : Int32).toInt64 &&& 63)) >>> ((2 : Int32).toInt64 &&& 63)) >>> ((2 : Int32).toInt64 &&& 63)) >>> ((9 : Int32).toInt64 &&& 63))), (0, .ref (ad 0)), (1, .ref (ad (tc))), (2, .int (nI az))]) hx hb dX7_unpack_38 hl (by decide) rfl (fun ls hl => ?_)
  refine lv_iload hx hb dX7_unpack_40 (lv_at hl 0 rfl) ?_
  refine lv_if_lt (tgt := 71) hx hb dX7_unpack_42 (by decide) (fun c_13 => absurd c_13 (by decide)) (fun c_13 => ?_)
  refine lv_aload_n hx hb dX7_unpack_45 rfl (lv_at hl 3 rfl) ?_
  refine kr_get (C := "MonitorWaysModel") (T := TX7) (N := 27) hx hb hts hin_X7 hown hK hP 0 (by decide) (R_0 _ _ _ _) rfl 15 (by decide) lk_f54 (fun _ h9 => h9) rfl dX7_unpack_46 ?_
  refine lv_iconst (v := 4) hx hb dX7_unpack_49 (by decide) ?_
  refine lv_iload hx hb dX7_unpack_50 (lv_at hl 1 rfl) ?_
  refine lv_imul hx hb dX7_unpack_52 ?_
  refine kr_topi (y := 0) (by decide) ?_
  refine lv_iload hx hb dX7_unpack_53 (lv_at hl 0 rfl) ?_
  refine lv_iadd hx hb dX7_unpack_55 ?_
  refine kr_topi (y := 3) (by decide) ?_
  refine lv_lload_n hx hb dX7_unpack_56 rfl (lv_at hl 2 rfl) ?_
  refine lv_l2i hx hb dX7_unpack_57 rfl ?_
  refine lv_iconst (v := 3) hx hb dX7_unpack_58 (by decide) ?_
  refine lv_iand hx hb dX7_unpack_59 ?_
  refine kr_iastN hx hb hK hP hD hS 15 0 (by decide) (fun _ => R_15 _ _ _ _) rfl (j := 3) (by decide) (by decide) dX7_unpack_60 (fun H locs hP hD hS => ?_)
  refine lv_lload_n hx hb dX7_unpack_61 rfl (lv_at hl 2 rfl) ?_
  refine lv_iconst (v := 2) hx hb dX7_unpack_62 (by decide) ?_
  refine lv_lshr hx hb dX7_unpack_63 rfl ?_
  refine lv_lstore_n (lv' := [(3, .long ((((((((n_oTunp (m_oTunp (m_oTunp (m_oTunp iv 0 (lv tc (az + 0))) 1 ((n_oTunp iv lv 0 (lv tc (az + 0))) tc (az + 1))) 2 ((n_oTunp (m_oTunp iv 0 (lv tc (az + 0))) (n_oTunp iv lv 0 (lv tc (az + 0))) 1 ((n_oTunp iv lv 0 (lv tc (az + 0))) tc (az + 1))) tc (az + 2))) (n_oTunp (m_oTunp (m_oTunp iv 0 (lv tc (az + 0))) 1 ((n_oTunp iv lv 0 (lv tc (az + 0))) tc (az + 1))) (n_oTunp (m_oTunp iv 0 (lv tc (az + 0))) (n_oTunp iv lv 0 (lv tc (az + 0))) 1 ((n_oTunp iv lv 0 (lv tc (az + 0))) tc (az + 1))) 2 ((n_oTunp (m_oTunp iv 0 (lv tc (az + 0))) (n_oTunp iv lv 0 (lv tc (az + 0))) 1 ((n_oTunp iv lv 0 (lv tc (az + 0))) tc (az + 1))) tc (az + 2))) 3 ((n_oTunp (m_oTunp (m_oTunp iv 0 (lv tc (az + 0))) 1 ((n_oTunp iv lv 0 (lv tc (az + 0))) tc (az + 1))) (n_oTunp (m_oTunp iv 0 (lv tc (az + 0))) (n_oTunp iv lv 0 (lv tc (az + 0))) 1 ((n_oTunp iv lv 0 (lv tc (az + 0))) tc (az + 1))) 2 ((n_oTunp (m_oTunp iv 0 (lv tc (az + 0))) (n_oTunp iv lv 0 (lv tc (az + 0))) 1 ((n_oTunp iv lv 0 (lv tc (az + 0))) tc (az + 1))) tc (az + 2))) tc (az + 3))) tc (az + 4)) >>> ((2 : Int32).toInt64 &&& 63)) >>> ((2 : Int32).toInt64 &&& 63)) >>> ((2 : Int32).toInt64 &&& 63)) >>> ((2 : Int32).toInt64 &&& 63)) >>> ((9 : Int32).toInt64 &&& 63)) >>> ((2 : Int32).toInt64 &&& 63))), (6, .int 3), (5, .int 0), (0, .ref (ad 0)), (1, .ref (ad (tc))), (2, .int (nI az))]) hx hb dX7_unpack_64 rfl hl (by decide) rfl (fun ls hl => ?_)
  refine lv_iinc (v := 2) (lv' := [(6, .int 2), (3, .long ((((((((n_oTunp (m_oTunp (m_oTunp (m_oTunp iv 0 (lv tc (az + 0))) 1 ((n_oTunp iv lv 0 (lv tc (az + 0))) tc (az + 1))) 2 ((n_oTunp (m_oTunp iv 0 (lv tc (az + 0))) (n_oTunp iv lv 0 (lv tc (az + 0))) 1 ((n_oTunp iv lv 0 (lv tc (az + 0))) tc (az + 1))) tc (az + 2))) (n_oTunp (m_oTunp (m_oTunp iv 0 (lv tc (az + 0))) 1 ((n_oTunp iv lv 0 (lv tc (az + 0))) tc (az + 1))) (n_oTunp (m_oTunp iv 0 (lv tc (az + 0))) (n_oTunp iv lv 0 (lv tc (az + 0))) 1 ((n_oTunp iv lv 0 (lv tc (az + 0))) tc (az + 1))) 2 ((n_oTunp (m_oTunp iv 0 (lv tc (az + 0))) (n_oTunp iv lv 0 (lv tc (az + 0))) 1 ((n_oTunp iv lv 0 (lv tc (az + 0))) tc (az + 1))) tc (az + 2))) 3 ((n_oTunp (m_oTunp (m_oTunp iv 0 (lv tc (az + 0))) 1 ((n_oTunp iv lv 0 (lv tc (az + 0))) tc (az + 1))) (n_oTunp (m_oTunp iv 0 (lv tc (az + 0))) (n_oTunp iv lv 0 (lv tc (az + 0))) 1 ((n_oTunp iv lv 0 (lv tc (az + 0))) tc (az + 1))) 2 ((n_oTunp (m_oTunp iv 0 (lv tc (az + 0))) (n_oTunp iv lv 0 (lv tc (az + 0))) 1 ((n_oTunp iv lv 0 (lv tc (az + 0))) tc (az + 1))) tc (az + 2))) tc (az + 3))) tc (az + 4)) >>> ((2 : Int32).toInt64 &&& 63)) >>> ((2 : Int32).toInt64 &&& 63)) >>> ((2 : Int32).toInt64 &&& 63)) >>> ((2 : Int32).toInt64 &&& 63)) >>> ((9 : Int32).toInt64 &&& 63)) >>> ((2 : Int32).toInt64 &&& 63))), (5, .int 0), (0, .ref (ad 0)), (1, .ref (ad (tc))), (2, .int (nI az))]) hx hb dX7_unpack_65 hl (k := 1) rfl (by decide) (by decide) rfl (fun ls hl => ?_)
  refine lv_goto (tgt := 40) hx hb dX7_unpack_68 (by decide) ?_
  refine lv_iload hx hb dX7_unpack_40 (lv_at hl 0 rfl) ?_
  refine lv_if_lt (tgt := 71) hx hb dX7_unpack_42 (by decide) (fun c_14 => absurd c_14 (by decide)) (fun c_14 => ?_)
  refine lv_aload_n hx hb dX7_unpack_45 rfl (lv_at hl 3 rfl) ?_
  refine kr_get (C := "MonitorWaysModel") (T := TX7) (N := 27) hx hb hts hin_X7 hown hK hP 0 (by decide) (R_0 _ _ _ _) rfl 15 (by decide) lk_f54 (fun _ h9 => h9) rfl dX7_unpack_46 ?_
  refine lv_iconst (v := 4) hx hb dX7_unpack_49 (by decide) ?_
  refine lv_iload hx hb dX7_unpack_50 (lv_at hl 2 rfl) ?_
  refine lv_imul hx hb dX7_unpack_52 ?_
  refine kr_topi (y := 0) (by decide) ?_
  refine lv_iload hx hb dX7_unpack_53 (lv_at hl 0 rfl) ?_
  refine lv_iadd hx hb dX7_unpack_55 ?_
  refine kr_topi (y := 2) (by decide) ?_
  refine lv_lload_n hx hb dX7_unpack_56 rfl (lv_at hl 1 rfl) ?_
  refine lv_l2i hx hb dX7_unpack_57 rfl ?_
  refine lv_iconst (v := 3) hx hb dX7_unpack_58 (by decide) ?_
  refine lv_iand hx hb dX7_unpack_59 ?_
  refine kr_iastN hx hb hK hP hD hS 15 0 (by decide) (fun _ => R_15 _ _ _ _) rfl (j := 2) (by decide) (by decide) dX7_unpack_60 (fun H locs hP hD hS => ?_)
  refine lv_lload_n hx hb dX7_unpack_61 rfl (lv_at hl 1 rfl) ?_
  refine lv_iconst (v := 2) hx hb dX7_unpack_62 (by decide) ?_
  refine lv_lshr hx hb dX7_unpack_63 rfl ?_
  refine lv_lstore_n (lv' := [(3, .long (((((((((n_oTunp (m_oTunp (m_oTunp (m_oTunp iv 0 (lv tc (az + 0))) 1 ((n_oTunp iv lv 0 (lv tc (az + 0))) tc (az + 1))) 2 ((n_oTunp (m_oTunp iv 0 (lv tc (az + 0))) (n_oTunp iv lv 0 (lv tc (az + 0))) 1 ((n_oTunp iv lv 0 (lv tc (az + 0))) tc (az + 1))) tc (az + 2))) (n_oTunp (m_oTunp (m_oTunp iv 0 (lv tc (az + 0))) 1 ((n_oTunp iv lv 0 (lv tc (az + 0))) tc (az + 1))) (n_oTunp (m_oTunp iv 0 (lv tc (az + 0))) (n_oTunp iv lv 0 (lv tc (az + 0))) 1 ((n_oTunp iv lv 0 (lv tc (az + 0))) tc (az + 1))) 2 ((n_oTunp (m_oTunp iv 0 (lv tc (az + 0))) (n_oTunp iv lv 0 (lv tc (az + 0))) 1 ((n_oTunp iv lv 0 (lv tc (az + 0))) tc (az + 1))) tc (az + 2))) 3 ((n_oTunp (m_oTunp (m_oTunp iv 0 (lv tc (az + 0))) 1 ((n_oTunp iv lv 0 (lv tc (az + 0))) tc (az + 1))) (n_oTunp (m_oTunp iv 0 (lv tc (az + 0))) (n_oTunp iv lv 0 (lv tc (az + 0))) 1 ((n_oTunp iv lv 0 (lv tc (az + 0))) tc (az + 1))) 2 ((n_oTunp (m_oTunp iv 0 (lv tc (az + 0))) (n_oTunp iv lv 0 (lv tc (az + 0))) 1 ((n_oTunp iv lv 0 (lv tc (az + 0))) tc (az + 1))) tc (az + 2))) tc (az + 3))) tc (az + 4)) >>> ((2 : Int32).toInt64 &&& 63)) >>> ((2 : Int32).toInt64 &&& 63)) >>> ((2 : Int32).toInt64 &&& 63)) >>> ((2 : Int32).toInt64 &&& 63)) >>> ((9 : Int32).toInt64 &&& 63)) >>> ((2 : Int32).toInt64 &&& 63)) >>> ((2 : Int32).toInt64 &&& 63))), (6, .int 2), (5, .int 0), (0, .ref (ad 0)), (1, .ref (ad (tc))), (2, .int (nI az))]) hx hb dX7_unpack_64 rfl hl (by decide) rfl (fun ls hl => ?_)
  refine lv_iinc (v := 1) (lv' := [(6, .int 1), (3, .long (((((((((n_oTunp (m_oTunp (m_oTunp (m_oTunp iv 0 (lv tc (az + 0))) 1 ((n_oTunp iv lv 0 (lv tc (az + 0))) tc (az + 1))) 2 ((n_oTunp (m_oTunp iv 0 (lv tc (az + 0))) (n_oTunp iv lv 0 (lv tc (az + 0))) 1 ((n_oTunp iv lv 0 (lv tc (az + 0))) tc (az + 1))) tc (az + 2))) (n_oTunp (m_oTunp (m_oTunp iv 0 (lv tc (az + 0))) 1 ((n_oTunp iv lv 0 (lv tc (az + 0))) tc (az + 1))) (n_oTunp (m_oTunp iv 0 (lv tc (az + 0))) (n_oTunp iv lv 0 (lv tc (az + 0))) 1 ((n_oTunp iv lv 0 (lv tc (az + 0))) tc (az + 1))) 2 ((n_oTunp (m_oTunp iv 0 (lv tc (az + 0))) (n_oTunp iv lv 0 (lv tc (az + 0))) 1 ((n_oTunp iv lv 0 (lv tc (az + 0))) tc (az + 1))) tc (az + 2))) 3 ((n_oTunp (m_oTunp (m_oTunp iv 0 (lv tc (az + 0))) 1 ((n_oTunp iv lv 0 (lv tc (az + 0))) tc (az + 1))) (n_oTunp (m_oTunp iv 0 (lv tc (az + 0))) (n_oTunp iv lv 0 (lv tc (az + 0))) 1 ((n_oTunp iv lv 0 (lv tc (az + 0))) tc (az + 1))) 2 ((n_oTunp (m_oTunp iv 0 (lv tc (az + 0))) (n_oTunp iv lv 0 (lv tc (az + 0))) 1 ((n_oTunp iv lv 0 (lv tc (az + 0))) tc (az + 1))) tc (az + 2))) tc (az + 3))) tc (az + 4)) >>> ((2 : Int32).toInt64 &&& 63)) >>> ((2 : Int32).toInt64 &&& 63)) >>> ((2 : Int32).toInt64 &&& 63)) >>> ((2 : Int32).toInt64 &&& 63)) >>> ((9 : Int32).toInt64 &&& 63)) >>> ((2 : Int32).toInt64 &&& 63)) >>> ((2 : Int32).toInt64 &&& 63))), (5, .int 0), (0, .ref (ad 0)), (1, .ref (ad (tc))), (2, .int (nI az))]) hx hb dX7_unpack_65 hl (k := 1) rfl (by decide) (by decide) rfl (fun ls hl => ?_)
  refine lv_goto (tgt := 40) hx hb dX7_unpack_68 (by decide) ?_
  refine lv_iload hx hb dX7_unpack_40 (lv_at hl 0 rfl) ?_
  refine lv_if_lt (tgt := 71) hx hb dX7_unpack_42 (by decide) (fun c_15 => absurd c_15 (by decide)) (fun c_15 => ?_)
  refine lv_aload_n hx hb dX7_unpack_45 rfl (lv_at hl 3 rfl) ?_
  refine kr_get (C := "MonitorWaysModel") (T := TX7) (N := 27) hx hb hts hin_X7 hown hK hP 0 (by decide) (R_0 _ _ _ _) rfl 15 (by decide) lk_f54 (fun _ h9 => h9) rfl dX7_unpack_46 ?_
  refine lv_iconst (v := 4) hx hb dX7_unpack_49 (by decide) ?_
  refine lv_iload hx hb dX7_unpack_50 (lv_at hl 2 rfl) ?_
  refine lv_imul hx hb dX7_unpack_52 ?_
  refine kr_topi (y := 0) (by decide) ?_
  refine lv_iload hx hb dX7_unpack_53 (lv_at hl 0 rfl) ?_
  refine lv_iadd hx hb dX7_unpack_55 ?_
  refine kr_topi (y := 1) (by decide) ?_
  refine lv_lload_n hx hb dX7_unpack_56 rfl (lv_at hl 1 rfl) ?_
  refine lv_l2i hx hb dX7_unpack_57 rfl ?_
  refine lv_iconst (v := 3) hx hb dX7_unpack_58 (by decide) ?_
  refine lv_iand hx hb dX7_unpack_59 ?_
  refine kr_iastN hx hb hK hP hD hS 15 0 (by decide) (fun _ => R_15 _ _ _ _) rfl (j := 1) (by decide) (by decide) dX7_unpack_60 (fun H locs hP hD hS => ?_)
  refine lv_lload_n hx hb dX7_unpack_61 rfl (lv_at hl 1 rfl) ?_
  refine lv_iconst (v := 2) hx hb dX7_unpack_62 (by decide) ?_
  refine lv_lshr hx hb dX7_unpack_63 rfl ?_
  refine lv_lstore_n (lv' := [(3, .long ((((((((((n_oTunp (m_oTunp (m_oTunp (m_oTunp iv 0 (lv tc (az + 0))) 1 ((n_oTunp iv lv 0 (lv tc (az + 0))) tc (az + 1))) 2 ((n_oTunp (m_oTunp iv 0 (lv tc (az + 0))) (n_oTunp iv lv 0 (lv tc (az + 0))) 1 ((n_oTunp iv lv 0 (lv tc (az + 0))) tc (az + 1))) tc (az + 2))) (n_oTunp (m_oTunp (m_oTunp iv 0 (lv tc (az + 0))) 1 ((n_oTunp iv lv 0 (lv tc (az + 0))) tc (az + 1))) (n_oTunp (m_oTunp iv 0 (lv tc (az + 0))) (n_oTunp iv lv 0 (lv tc (az + 0))) 1 ((n_oTunp iv lv 0 (lv tc (az + 0))) tc (az + 1))) 2 ((n_oTunp (m_oTunp iv 0 (lv tc (az + 0))) (n_oTunp iv lv 0 (lv tc (az + 0))) 1 ((n_oTunp iv lv 0 (lv tc (az + 0))) tc (az + 1))) tc (az + 2))) 3 ((n_oTunp (m_oTunp (m_oTunp iv 0 (lv tc (az + 0))) 1 ((n_oTunp iv lv 0 (lv tc (az + 0))) tc (az + 1))) (n_oTunp (m_oTunp iv 0 (lv tc (az + 0))) (n_oTunp iv lv 0 (lv tc (az + 0))) 1 ((n_oTunp iv lv 0 (lv tc (az + 0))) tc (az + 1))) 2 ((n_oTunp (m_oTunp iv 0 (lv tc (az + 0))) (n_oTunp iv lv 0 (lv tc (az + 0))) 1 ((n_oTunp iv lv 0 (lv tc (az + 0))) tc (az + 1))) tc (az + 2))) tc (az + 3))) tc (az + 4)) >>> ((2 : Int32).toInt64 &&& 63)) >>> ((2 : Int32).toInt64 &&& 63)) >>> ((2 : Int32).toInt64 &&& 63)) >>> ((2 : Int32).toInt64 &&& 63)) >>> ((9 : Int32).toInt64 &&& 63)) >>> ((2 : Int32).toInt64 &&& 63)) >>> ((2 : Int32).toInt64 &&& 63)) >>> ((2 : Int32).toInt64 &&& 63))), (6, .int 1), (5, .int 0), (0, .ref (ad 0)), (1, .ref (ad (tc))), (2, .int (nI az))]) hx hb dX7_unpack_64 rfl hl (by decide) rfl (fun ls hl => ?_)
  refine lv_iinc (v := 0) (lv' := [(6, .int 0), (3, .long ((((((((((n_oTunp (m_oTunp (m_oTunp (m_oTunp iv 0 (lv tc (az + 0))) 1 ((n_oTunp iv lv 0 (lv tc (az + 0))) tc (az + 1))) 2 ((n_oTunp (m_oTunp iv 0 (lv tc (az + 0))) (n_oTunp iv lv 0 (lv tc (az + 0))) 1 ((n_oTunp iv lv 0 (lv tc (az + 0))) tc (az + 1))) tc (az + 2))) (n_oTunp (m_oTunp (m_oTunp iv 0 (lv tc (az + 0))) 1 ((n_oTunp iv lv 0 (lv tc (az + 0))) tc (az + 1))) (n_oTunp (m_oTunp iv 0 (lv tc (az + 0))) (n_oTunp iv lv 0 (lv tc (az + 0))) 1 ((n_oTunp iv lv 0 (lv tc (az + 0))) tc (az + 1))) 2 ((n_oTunp (m_oTunp iv 0 (lv tc (az + 0))) (n_oTunp iv lv 0 (lv tc (az + 0))) 1 ((n_oTunp iv lv 0 (lv tc (az + 0))) tc (az + 1))) tc (az + 2))) 3 ((n_oTunp (m_oTunp (m_oTunp iv 0 (lv tc (az + 0))) 1 ((n_oTunp iv lv 0 (lv tc (az + 0))) tc (az + 1))) (n_oTunp (m_oTunp iv 0 (lv tc (az + 0))) (n_oTunp iv lv 0 (lv tc (az + 0))) 1 ((n_oTunp iv lv 0 (lv tc (az + 0))) tc (az + 1))) 2 ((n_oTunp (m_oTunp iv 0 (lv tc (az + 0))) (n_oTunp iv lv 0 (lv tc (az + 0))) 1 ((n_oTunp iv lv 0 (lv tc (az + 0))) tc (az + 1))) tc (az + 2))) tc (az + 3))) tc (az + 4)) >>> ((2 : Int32).toInt64 &&& 63)) >>> ((2 : Int32).toInt64 &&& 63)) >>> ((2 : Int32).toInt64 &&& 63)) >>> ((2 : Int32).toInt64 &&& 63)) >>> ((9 : Int32).toInt64 &&& 63)) >>> ((2 : Int32).toInt64 &&& 63)) >>> ((2 : Int32).toInt64 &&& 63)) >>> ((2 : Int32).toInt64 &&& 63))), (5, .int 0), (0, .ref (ad 0)), (1, .ref (ad (tc))), (2, .int (nI az))]) hx hb dX7_unpack_65 hl (k := 1) rfl (by decide) (by decide) rfl (fun ls hl => ?_)
  refine lv_goto (tgt := 40) hx hb dX7_unpack_68 (by decide) ?_
  refine lv_iload hx hb dX7_unpack_40 (lv_at hl 0 rfl) ?_
  refine lv_if_lt (tgt := 71) hx hb dX7_unpack_42 (by decide) (fun c_16 => absurd c_16 (by decide)) (fun c_16 => ?_)
  refine lv_aload_n hx hb dX7_unpack_45 rfl (lv_at hl 3 rfl) ?_
  refine kr_get (C := "MonitorWaysModel") (T := TX7) (N := 27) hx hb hts hin_X7 hown hK hP 0 (by decide) (R_0 _ _ _ _) rfl 15 (by decide) lk_f54 (fun _ h9 => h9) rfl dX7_unpack_46 ?_
  refine lv_iconst (v := 4) hx hb dX7_unpack_49 (by decide) ?_
  refine lv_iload hx hb dX7_unpack_50 (lv_at hl 2 rfl) ?_
  refine lv_imul hx hb dX7_unpack_52 ?_
  refine kr_topi (y := 0) (by decide) ?_
  refine lv_iload hx hb dX7_unpack_53 (lv_at hl 0 rfl) ?_
  refine lv_iadd hx hb dX7_unpack_55 ?_
  refine kr_topi (y := 0) (by decide) ?_
  refine lv_lload_n hx hb dX7_unpack_56 rfl (lv_at hl 1 rfl) ?_
  refine lv_l2i hx hb dX7_unpack_57 rfl ?_
  refine lv_iconst (v := 3) hx hb dX7_unpack_58 (by decide) ?_
  refine lv_iand hx hb dX7_unpack_59 ?_
  refine kr_iastN hx hb hK hP hD hS 15 0 (by decide) (fun _ => R_15 _ _ _ _) rfl (j := 0) (by decide) (by decide) dX7_unpack_60 (fun H locs hP hD hS => ?_)
  refine lv_lload_n hx hb dX7_unpack_61 rfl (lv_at hl 1 rfl) ?_
  refine lv_iconst (v := 2) hx hb dX7_unpack_62 (by decide) ?_
  refine lv_lshr hx hb dX7_unpack_63 rfl ?_
  refine lv_lstore_n (lv' := [(3, .long (((((((((((n_oTunp (m_oTunp (m_oTunp (m_oTunp iv 0 (lv tc (az + 0))) 1 ((n_oTunp iv lv 0 (lv tc (az + 0))) tc (az + 1))) 2 ((n_oTunp (m_oTunp iv 0 (lv tc (az + 0))) (n_oTunp iv lv 0 (lv tc (az + 0))) 1 ((n_oTunp iv lv 0 (lv tc (az + 0))) tc (az + 1))) tc (az + 2))) (n_oTunp (m_oTunp (m_oTunp iv 0 (lv tc (az + 0))) 1 ((n_oTunp iv lv 0 (lv tc (az + 0))) tc (az + 1))) (n_oTunp (m_oTunp iv 0 (lv tc (az + 0))) (n_oTunp iv lv 0 (lv tc (az + 0))) 1 ((n_oTunp iv lv 0 (lv tc (az + 0))) tc (az + 1))) 2 ((n_oTunp (m_oTunp iv 0 (lv tc (az + 0))) (n_oTunp iv lv 0 (lv tc (az + 0))) 1 ((n_oTunp iv lv 0 (lv tc (az + 0))) tc (az + 1))) tc (az + 2))) 3 ((n_oTunp (m_oTunp (m_oTunp iv 0 (lv tc (az + 0))) 1 ((n_oTunp iv lv 0 (lv tc (az + 0))) tc (az + 1))) (n_oTunp (m_oTunp iv 0 (lv tc (az + 0))) (n_oTunp iv lv 0 (lv tc (az + 0))) 1 ((n_oTunp iv lv 0 (lv tc (az + 0))) tc (az + 1))) 2 ((n_oTunp (m_oTunp iv 0 (lv tc (az + 0))) (n_oTunp iv lv 0 (lv tc (az + 0))) 1 ((n_oTunp iv lv 0 (lv tc (az + 0))) tc (az + 1))) tc (az + 2))) tc (az + 3))) tc (az + 4)) >>> ((2 : Int32).toInt64 &&& 63)) >>> ((2 : Int32).toInt64 &&& 63)) >>> ((2 : Int32).toInt64 &&& 63)) >>> ((2 : Int32).toInt64 &&& 63)) >>> ((9 : Int32).toInt64 &&& 63)) >>> ((2 : Int32).toInt64 &&& 63)) >>> ((2 : Int32).toInt64 &&& 63)) >>> ((2 : Int32).toInt64 &&& 63)) >>> ((2 : Int32).toInt64 &&& 63))), (6, .int 0), (5, .int 0), (0, .ref (ad 0)), (1, .ref (ad (tc))), (2, .int (nI az))]) hx hb dX7_unpack_64 rfl hl (by decide) rfl (fun ls hl => ?_)
  refine lv_iinc (v := (-1)) (lv' := [(6, .int (-1)), (3, .long (((((((((((n_oTunp (m_oTunp (m_oTunp (m_oTunp iv 0 (lv tc (az + 0))) 1 ((n_oTunp iv lv 0 (lv tc (az + 0))) tc (az + 1))) 2 ((n_oTunp (m_oTunp iv 0 (lv tc (az + 0))) (n_oTunp iv lv 0 (lv tc (az + 0))) 1 ((n_oTunp iv lv 0 (lv tc (az + 0))) tc (az + 1))) tc (az + 2))) (n_oTunp (m_oTunp (m_oTunp iv 0 (lv tc (az + 0))) 1 ((n_oTunp iv lv 0 (lv tc (az + 0))) tc (az + 1))) (n_oTunp (m_oTunp iv 0 (lv tc (az + 0))) (n_oTunp iv lv 0 (lv tc (az + 0))) 1 ((n_oTunp iv lv 0 (lv tc (az + 0))) tc (az + 1))) 2 ((n_oTunp (m_oTunp iv 0 (lv tc (az + 0))) (n_oTunp iv lv 0 (lv tc (az + 0))) 1 ((n_oTunp iv lv 0 (lv tc (az + 0))) tc (az + 1))) tc (az + 2))) 3 ((n_oTunp (m_oTunp (m_oTunp iv 0 (lv tc (az + 0))) 1 ((n_oTunp iv lv 0 (lv tc (az + 0))) tc (az + 1))) (n_oTunp (m_oTunp iv 0 (lv tc (az + 0))) (n_oTunp iv lv 0 (lv tc (az + 0))) 1 ((n_oTunp iv lv 0 (lv tc (az + 0))) tc (az + 1))) 2 ((n_oTunp (m_oTunp iv 0 (lv tc (az + 0))) (n_oTunp iv lv 0 (lv tc (az + 0))) 1 ((n_oTunp iv lv 0 (lv tc (az + 0))) tc (az + 1))) tc (az + 2))) tc (az + 3))) tc (az + 4)) >>> ((2 : Int32).toInt64 &&& 63)) >>> ((2 : Int32).toInt64 &&& 63)) >>> ((2 : Int32).toInt64 &&& 63)) >>> ((2 : Int32).toInt64 &&& 63)) >>> ((9 : Int32).toInt64 &&& 63)) >>> ((2 : Int32).toInt64 &&& 63)) >>> ((2 : Int32).toInt64 &&& 63)) >>> ((2 : Int32).toInt64 &&& 63)) >>> ((2 : Int32).toInt64 &&& 63))), (5, .int 0), (0, .ref (ad 0)), (1, .ref (ad (tc))), (2, .int (nI az))]) hx hb dX7_unpack_65 hl (k := 1) rfl (by decide) (by decide) rfl (fun ls hl => ?_)
  refine lv_goto (tgt := 40) hx hb dX7_unpack_68 (by decide) ?_
  refine lv_iload hx hb dX7_unpack_40 (lv_at hl 0 rfl) ?_
  refine lv_if_lt (tgt := 71) hx hb dX7_unpack_42 (by decide) (fun c_17 => ?_) (fun c_17 => absurd (by decide) c_17)
  refine lv_aload_n hx hb dX7_unpack_71 rfl (lv_at hl 3 rfl) ?_
  refine kr_get (C := "MonitorWaysModel") (T := TX7) (N := 27) hx hb hts hin_X7 hown hK hP 0 (by decide) (R_0 _ _ _ _) rfl 14 (by decide) lk_f51 (fun _ h9 => h9) rfl dX7_unpack_72 ?_
  refine lv_iload hx hb dX7_unpack_75 (lv_at hl 2 rfl) ?_
  refine lv_lload_n hx hb dX7_unpack_77 rfl (lv_at hl 1 rfl) ?_
  refine lv_l2i hx hb dX7_unpack_78 rfl ?_
  refine lv_bipush (v := 7) hx hb dX7_unpack_79 (by decide) ?_
  refine lv_iand hx hb dX7_unpack_81 ?_
  refine kr_iastN hx hb hK hP hD hS 14 0 (by decide) (fun _ => R_14 _ _ _ _) rfl (j := 0) (by decide) (by decide) dX7_unpack_82 (fun H locs hP hD hS => ?_)
  refine lv_aload_n hx hb dX7_unpack_83 rfl (lv_at hl 3 rfl) ?_
  refine kr_get (C := "MonitorWaysModel") (T := TX7) (N := 27) hx hb hts hin_X7 hown hK hP 0 (by decide) (R_0 _ _ _ _) rfl 13 (by decide) lk_f48 (fun _ h9 => h9) rfl dX7_unpack_84 ?_
  refine lv_iload hx hb dX7_unpack_87 (lv_at hl 2 rfl) ?_
  refine lv_lload_n hx hb dX7_unpack_89 rfl (lv_at hl 1 rfl) ?_
  refine lv_iconst (v := 3) hx hb dX7_unpack_90 (by decide) ?_
  refine lv_lshr hx hb dX7_unpack_91 rfl ?_
  refine lv_l2i hx hb dX7_unpack_92 rfl ?_
  refine lv_bipush (v := 7) hx hb dX7_unpack_93 (by decide) ?_
  refine lv_iand hx hb dX7_unpack_95 ?_
  refine kr_iastN hx hb hK hP hD hS 13 0 (by decide) (fun _ => R_13 _ _ _ _) rfl (j := 0) (by decide) (by decide) dX7_unpack_96 (fun H locs hP hD hS => ?_)
  refine lv_aload_n hx hb dX7_unpack_97 rfl (lv_at hl 3 rfl) ?_
  refine kr_get (C := "MonitorWaysModel") (T := TX7) (N := 27) hx hb hts hin_X7 hown hK hP 0 (by decide) (R_0 _ _ _ _) rfl 12 (by decide) lk_f45 (fun _ h9 => h9) rfl dX7_unpack_98 ?_
  refine lv_iload hx hb dX7_unpack_101 (lv_at hl 2 rfl) ?_
  refine lv_lload_n hx hb dX7_unpack_103 rfl (lv_at hl 1 rfl) ?_
  refine lv_bipush (v := 6) hx hb dX7_unpack_104 (by decide) ?_
  refine lv_lshr hx hb dX7_unpack_106 rfl ?_
  refine lv_l2i hx hb dX7_unpack_107 rfl ?_
  refine lv_bipush (v := 7) hx hb dX7_unpack_108 (by decide) ?_
  refine lv_iand hx hb dX7_unpack_110 ?_
  refine lv_iconst (v := 1) hx hb dX7_unpack_111 (by decide) ?_
  refine lv_isub hx hb dX7_unpack_112 ?_
  refine kr_iastN hx hb hK hP hD hS 12 0 (by decide) (fun _ => R_12 _ _ _ _) rfl (j := 0) (by decide) (by decide) dX7_unpack_113 (fun H locs hP hD hS => ?_)
  refine lv_lload_n hx hb dX7_unpack_114 rfl (lv_at hl 1 rfl) ?_
  refine lv_bipush (v := 9) hx hb dX7_unpack_115 (by decide) ?_
  refine lv_lshr hx hb dX7_unpack_117 rfl ?_
  refine lv_lstore_n (lv' := [(3, .long ((((((((((((n_oTunp (m_oTunp (m_oTunp (m_oTunp iv 0 (lv tc (az + 0))) 1 ((n_oTunp iv lv 0 (lv tc (az + 0))) tc (az + 1))) 2 ((n_oTunp (m_oTunp iv 0 (lv tc (az + 0))) (n_oTunp iv lv 0 (lv tc (az + 0))) 1 ((n_oTunp iv lv 0 (lv tc (az + 0))) tc (az + 1))) tc (az + 2))) (n_oTunp (m_oTunp (m_oTunp iv 0 (lv tc (az + 0))) 1 ((n_oTunp iv lv 0 (lv tc (az + 0))) tc (az + 1))) (n_oTunp (m_oTunp iv 0 (lv tc (az + 0))) (n_oTunp iv lv 0 (lv tc (az + 0))) 1 ((n_oTunp iv lv 0 (lv tc (az + 0))) tc (az + 1))) 2 ((n_oTunp (m_oTunp iv 0 (lv tc (az + 0))) (n_oTunp iv lv 0 (lv tc (az + 0))) 1 ((n_oTunp iv lv 0 (lv tc (az + 0))) tc (az + 1))) tc (az + 2))) 3 ((n_oTunp (m_oTunp (m_oTunp iv 0 (lv tc (az + 0))) 1 ((n_oTunp iv lv 0 (lv tc (az + 0))) tc (az + 1))) (n_oTunp (m_oTunp iv 0 (lv tc (az + 0))) (n_oTunp iv lv 0 (lv tc (az + 0))) 1 ((n_oTunp iv lv 0 (lv tc (az + 0))) tc (az + 1))) 2 ((n_oTunp (m_oTunp iv 0 (lv tc (az + 0))) (n_oTunp iv lv 0 (lv tc (az + 0))) 1 ((n_oTunp iv lv 0 (lv tc (az + 0))) tc (az + 1))) tc (az + 2))) tc (az + 3))) tc (az + 4)) >>> ((2 : Int32).toInt64 &&& 63)) >>> ((2 : Int32).toInt64 &&& 63)) >>> ((2 : Int32).toInt64 &&& 63)) >>> ((2 : Int32).toInt64 &&& 63)) >>> ((9 : Int32).toInt64 &&& 63)) >>> ((2 : Int32).toInt64 &&& 63)) >>> ((2 : Int32).toInt64 &&& 63)) >>> ((2 : Int32).toInt64 &&& 63)) >>> ((2 : Int32).toInt64 &&& 63)) >>> ((9 : Int32).toInt64 &&& 63))), (6, .int (-1)), (5, .int 0), (0, .ref (ad 0)), (1, .ref (ad (tc))), (2, .int (nI az))]) hx hb dX7_unpack_118 rfl hl (by decide) rfl (fun ls hl => ?_)
  refine lv_iinc (v := (-1)) (lv' := [(5, .int (-1)), (3, .long ((((((((((((n_oTunp (m_oTunp (m_oTunp (m_oTunp iv 0 (lv tc (az + 0))) 1 ((n_oTunp iv lv 0 (lv tc (az + 0))) tc (az + 1))) 2 ((n_oTunp (m_oTunp iv 0 (lv tc (az + 0))) (n_oTunp iv lv 0 (lv tc (az + 0))) 1 ((n_oTunp iv lv 0 (lv tc (az + 0))) tc (az + 1))) tc (az + 2))) (n_oTunp (m_oTunp (m_oTunp iv 0 (lv tc (az + 0))) 1 ((n_oTunp iv lv 0 (lv tc (az + 0))) tc (az + 1))) (n_oTunp (m_oTunp iv 0 (lv tc (az + 0))) (n_oTunp iv lv 0 (lv tc (az + 0))) 1 ((n_oTunp iv lv 0 (lv tc (az + 0))) tc (az + 1))) 2 ((n_oTunp (m_oTunp iv 0 (lv tc (az + 0))) (n_oTunp iv lv 0 (lv tc (az + 0))) 1 ((n_oTunp iv lv 0 (lv tc (az + 0))) tc (az + 1))) tc (az + 2))) 3 ((n_oTunp (m_oTunp (m_oTunp iv 0 (lv tc (az + 0))) 1 ((n_oTunp iv lv 0 (lv tc (az + 0))) tc (az + 1))) (n_oTunp (m_oTunp iv 0 (lv tc (az + 0))) (n_oTunp iv lv 0 (lv tc (az + 0))) 1 ((n_oTunp iv lv 0 (lv tc (az + 0))) tc (az + 1))) 2 ((n_oTunp (m_oTunp iv 0 (lv tc (az + 0))) (n_oTunp iv lv 0 (lv tc (az + 0))) 1 ((n_oTunp iv lv 0 (lv tc (az + 0))) tc (az + 1))) tc (az + 2))) tc (az + 3))) tc (az + 4)) >>> ((2 : Int32).toInt64 &&& 63)) >>> ((2 : Int32).toInt64 &&& 63)) >>> ((2 : Int32).toInt64 &&& 63)) >>> ((2 : Int32).toInt64 &&& 63)) >>> ((9 : Int32).toInt64 &&& 63)) >>> ((2 : Int32).toInt64 &&& 63)) >>> ((2 : Int32).toInt64 &&& 63)) >>> ((2 : Int32).toInt64 &&& 63)) >>> ((2 : Int32).toInt64 &&& 63)) >>> ((9 : Int32).toInt64 &&& 63))), (6, .int (-1)), (0, .ref (ad 0)), (1, .ref (ad (tc))), (2, .int (nI az))]) hx hb dX7_unpack_119 hl (k := 2) rfl (by decide) (by decide) rfl (fun ls hl => ?_)
  refine lv_goto (tgt := 32) hx hb dX7_unpack_122 (by decide) ?_
  refine lv_iload hx hb dX7_unpack_32 (lv_at hl 0 rfl) ?_
  refine lv_if_lt (tgt := 125) hx hb dX7_unpack_34 (by decide) (fun c_18 => ?_) (fun c_18 => absurd (by decide) c_18)
  exact kr_vret hx hb hr hlocks hK hP hD hS (mem4 rfl rfl) dX7_unpack_125
