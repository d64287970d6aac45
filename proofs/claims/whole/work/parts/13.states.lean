def r_sSize (iv : Nat → Nat → Int32) : Int32 := iv 38 0
set_option maxHeartbeats 4000000 in
set_option maxRecDepth 100000 in
theorem c_sSize (l : Launch) (D : va_G) (gc : Nat → ClassId) (ad ln : Nat → Nat) (iv : Nat → Nat → Int32) (lv : Nat → Nat → Int64) : kMi l yX4_size wX4_size ({ frames := 0, cells := 0, slots := 0, locals := 0 }) D vwCl (kT gc) 42 (kE gc) [.ref (ad 38)] (ad, ln, iv, lv) (ad, ln, iv, lv) (r_sSize iv) := by
  refine ki_start (cc := cX4_size) (maxL := 1) (ret := (some .int)) (by decide) rfl (Nat.le_of_ble_eq_true rfl) ?_
  intro p9 e9 s m9 below meth c9 A ls hx hb hr hts hown hlocks hml hA hK hP hD hS hl
  have hl : lv_has ls 1 [(0, .ref (ad 38))] := hl
  have hown : s.vm.findClass "MonitorWays$States" = some m9.cls := hown
  have hin_X4 : ∀ w ∈ u_ws "MonitorWays$States" TX4 3, w ∈ wX4_size := fun w h => tcons (inX4 w h)
  have lk_f23 := hts _ (tcons tw_153)
  refine lv_aload_n hx hb dX4_size_0 rfl (lv_at hl 0 rfl) ?_
  refine kr_get (C := "MonitorWays$States") (T := TX4) (N := 3) hx hb hts hin_X4 hown hK hP 38 (by decide) (E_sts _ _ _ _) rfl 0 (by decide) lk_f23 (fun _ h9 => h9) rfl dX4_size_1 ?_
  exact kr_iret hx hb hr hlocks hK hP hD hS rfl rfl dX4_size_4
def r_sRoom (iv : Nat → Nat → Int32) (v : Int32) : Int32 := ((v / 4) * 3)
set_option maxHeartbeats 4000000 in
set_option maxRecDepth 100000 in
theorem c_sRoom (l : Launch) (D : va_G) (gc : Nat → ClassId) (ad ln : Nat → Nat) (iv : Nat → Nat → Int32) (lv : Nat → Nat → Int64) (v : Int32) : kMi l yX4_roomIn wX4_roomIn ({ frames := 0, cells := 0, slots := 0, locals := 0 }) D vwCl (kT gc) 42 (kE gc) [.int v] (ad, ln, iv, lv) (ad, ln, iv, lv) (r_sRoom iv v) := by
  refine ki_start (cc := cX4_roomIn) (maxL := 1) (ret := (some .int)) (by decide) rfl (Nat.le_of_ble_eq_true rfl) ?_
  intro p9 e9 s m9 below meth c9 A ls hx hb hr hts hown hlocks hml hA hK hP hD hS hl
  have hl : lv_has ls 1 [(0, .int v)] := hl
  have hown : s.vm.findClass "MonitorWays$States" = some m9.cls := hown
  refine lv_iload_n hx hb dX4_roomIn_0 rfl (lv_at hl 0 rfl) ?_
  refine lv_iconst (v := 4) hx hb dX4_roomIn_1 (by decide) ?_
  refine lv_idiv hx hb dX4_roomIn_2 (by decide) ?_
  refine lv_iconst (v := 3) hx hb dX4_roomIn_3 (by decide) ?_
  refine lv_imul hx hb dX4_roomIn_4 ?_
  exact kr_iret hx hb hr hlocks hK hP hD hS rfl rfl dX4_roomIn_5
def m_sClear (iv : Nat → Nat → Int32) (ln : Nat → Nat) : Nat → Nat → Int32 := (fillI (up2 iv 38 0 0) 40 0 (ln 40))
set_option maxHeartbeats 4000000 in
set_option maxRecDepth 100000 in
theorem c_sClear (l : Launch) (D : va_G) (gc : Nat → ClassId) (ad ln : Nat → Nat) (iv : Nat → Nat → Int32) (lv : Nat → Nat → Int64) (hns : ln 40 < 2 ^ 31) : kMv l yX4_clear wX4_clear ({ frames := 1, cells := 0, slots := 0, locals := 23 }) D vwCl (kT gc) 42 (kE gc) [.ref (ad 38)] (ad, ln, iv, lv) (ad, ln, m_sClear iv ln, lv) := by
  refine kv_start (cc := cX4_clear) (maxL := 1) (by decide) rfl (Nat.le_of_ble_eq_true rfl) ?_
  intro p9 e9 s m9 below meth c9 A ls hx hb hr hts hown hlocks hml hA hK hP hD hS hl
  have hl : lv_has ls 1 [(0, .ref (ad 38))] := hl
  have hown : s.vm.findClass "MonitorWays$States" = some m9.cls := hown
  have hin_X4 : ∀ w ∈ u_ws "MonitorWays$States" TX4 3, w ∈ wX4_clear := fun w h => tcons (inX4 w h)
  have lk_f23 := hts _ (tcons tw_153)
  have lk_f19 := hts _ (tcons tw_155)
  refine lv_aload_n hx hb dX4_clear_0 rfl (lv_at hl 0 rfl) ?_
  refine lv_iconst (v := 0) hx hb dX4_clear_1 (by decide) ?_
  refine kr_put (C := "MonitorWays$States") (T := TX4) (N := 3) hx hb hts hin_X4 tyX4 ok_tyX4 ok_nX4 hown hK hP hD hS 38 (by decide) (fun _ => E_sts _ _ _ _) rfl 0 (by decide) lk_f23 (fun _ h9 => h9) rfl rfl rfl rfl (fun _ => Nat.le_of_ble_eq_true rfl) (fun _ => rfl) dX4_clear_2 (fun H locs hP hD hS => ?_)
  refine lv_aload_n hx hb dX4_clear_5 rfl (lv_at hl 0 rfl) ?_
  refine kr_get (C := "MonitorWays$States") (T := TX4) (N := 3) hx hb hts hin_X4 hown hK hP 38 (by decide) (E_sts _ _ _ _) rfl 2 (by decide) lk_f19 (fun _ h9 => h9) rfl dX4_clear_6 ?_
  refine lv_iconst (v := 0) hx hb dX4_clear_9 (by decide) ?_
  refine kr_callSv (As := [.ref (ad 40), .int 0]) (rest := []) ⟨hx, hb, hml, hown, hts⟩ (c_jFill l D gc ad ln (up2 iv 38 0 0) lv 0 hns) (⟨callB_of 2 hts (goodC (fun _ h => tcons h) tw_421) rfl rfl rfl (hts _ (tcons tw_9)) (hts _ (tcons tw_419)) (by decide +kernel) ⟨Nat.le_of_ble_eq_true rfl, Nat.le_of_ble_eq_true rfl⟩, hts _ (tcons tw_420)⟩) hK hP hD hS hA rfl hl.1 rfl (Nat.le_of_ble_eq_true rfl) dX4_clear_10 ⟨Nat.le_of_ble_eq_true rfl, Nat.le_of_ble_eq_true rfl⟩ (fun H locs hP hD hS => ?_)
  exact kr_vret hx hb hr hlocks hK hP hD hS rfl dX4_clear_13
def r_sHash (iv : Nat → Nat → Int32) (lv : Nat → Nat → Int64) (a : Nat) : Int32 := ((((((((((((0 ^^^ (lv 39 ((a * 4) + 0))) * (-7046029254386353131)) ^^^ ((((0 ^^^ (lv 39 ((a * 4) + 0))) * (-7046029254386353131)).toUInt64 >>> ((32 : Int32).toInt64.toUInt64 &&& Int64.toUInt64 63)).toInt64)) ^^^ (lv 39 ((a * 4) + 1))) * (-7046029254386353131)) ^^^ (((((((0 ^^^ (lv 39 ((a * 4) + 0))) * (-7046029254386353131)) ^^^ ((((0 ^^^ (lv 39 ((a * 4) + 0))) * (-7046029254386353131)).toUInt64 >>> ((32 : Int32).toInt64.toUInt64 &&& Int64.toUInt64 63)).toInt64)) ^^^ (lv 39 ((a * 4) + 1))) * (-7046029254386353131)).toUInt64 >>> ((32 : Int32).toInt64.toUInt64 &&& Int64.toUInt64 63)).toInt64)) ^^^ (lv 39 ((a * 4) + 2))) * (-7046029254386353131)) ^^^ ((((((((((0 ^^^ (lv 39 ((a * 4) + 0))) * (-7046029254386353131)) ^^^ ((((0 ^^^ (lv 39 ((a * 4) + 0))) * (-7046029254386353131)).toUInt64 >>> ((32 : Int32).toInt64.toUInt64 &&& Int64.toUInt64 63)).toInt64)) ^^^ (lv 39 ((a * 4) + 1))) * (-7046029254386353131)) ^^^ (((((((0 ^^^ (lv 39 ((a * 4) + 0))) * (-7046029254386353131)) ^^^ ((((0 ^^^ (lv 39 ((a * 4) + 0))) * (-7046029254386353131)).toUInt64 >>> ((32 : Int32).toInt64.toUInt64 &&& Int64.toUInt64 63)).toInt64)) ^^^ (lv 39 ((a * 4) + 1))) * (-7046029254386353131)).toUInt64 >>> ((32 : Int32).toInt64.toUInt64 &&& Int64.toUInt64 63)).toInt64)) ^^^ (lv 39 ((a * 4) + 2))) * (-7046029254386353131)).toUInt64 >>> ((32 : Int32).toInt64.toUInt64 &&& Int64.toUInt64 63)).toInt64)) ^^^ (lv 39 ((a * 4) + 3))) * (-7046029254386353131)) ^^^ (((((((((((((0 ^^^ (lv 39 ((a * 4) + 0))) * (-7046029254386353131)) ^^^ ((((0 ^^^ (lv 39 ((a * 4) + 0))) * (-7046029254386353131)).toUInt64 >>> ((32 : Int32).toInt64.toUInt64 &&& Int64.toUInt64 63)).toInt64)) ^^^ (lv 39 ((a * 4) + 1))) * (-7046029254386353131)) ^^^ (((((((0 ^^^ (lv 39 ((a * 4) + 0))) * (-7046029254386353131)) ^^^ ((((0 ^^^ (lv 39 ((a * 4) + 0))) * (-7046029254386353131)).toUInt64 >>> ((32 : Int32).toInt64.toUInt64 &&& Int64.toUInt64 63)).toInt64)) ^^^ (lv 39 ((a * 4) + 1))) * (-7046029254386353131)).toUInt64 >>> ((32 : Int32).toInt64.toUInt64 &&& Int64.toUInt64 63)).toInt64)) ^^^ (lv 39 ((a * 4) + 2))) * (-7046029254386353131)) ^^^ ((((((((((0 ^^^ (lv 39 ((a * 4) + 0))) * (-7046029254386353131)) ^^^ ((((0 ^^^ (lv 39 ((a * 4) + 0))) * (-7046029254386353131)).toUInt64 >>> ((32 : Int32).toInt64.toUInt64 &&& Int64.toUInt64 63)).toInt64)) ^^^ (lv 39 ((a * 4) + 1))) * (-7046029254386353131)) ^^^ (((((((0 ^^^ (lv 39 ((a * 4) + 0))) * (-7046029254386353131)) ^^^ ((((0 ^^^ (lv 39 ((a * 4) + 0))) * (-7046029254386353131)).toUInt64 >>> ((32 : Int32).toInt64.toUInt64 &&& Int64.toUInt64 63)).toInt64)) ^^^ (lv 39 ((a * 4) + 1))) * (-7046029254386353131)).toUInt64 >>> ((32 : Int32).toInt64.toUInt64 &&& Int64.toUInt64 63)).toInt64)) ^^^ (lv 39 ((a * 4) + 2))) * (-7046029254386353131)).toUInt64 >>> ((32 : Int32).toInt64.toUInt64 &&& Int64.toUInt64 63)).toInt64)) ^^^ (lv 39 ((a * 4) + 3))) * (-7046029254386353131)).toUInt64 >>> ((32 : Int32).toInt64.toUInt64 &&& Int64.toUInt64 63)).toInt64)).toInt32
set_option maxHeartbeats 4000000 in
set_option maxRecDepth 100000 in
theorem c_sHash (l : Launch) (D : va_G) (gc : Nat → ClassId) (ad ln : Nat → Nat) (iv : Nat → Nat → Int32) (lv : Nat → Nat → Int64) (a : Nat) (hnw : ln 39 < 2 ^ 31) (ha : 4 * a + 4 ≤ ln 39) : kMi l yX4_hashOf wX4_hashOf ({ frames := 0, cells := 0, slots := 0, locals := 0 }) D vwCl (kT gc) 42 (kE gc) [.ref (ad 38), .int (nI a)] (ad, ln, iv, lv) (ad, ln, iv, lv) (r_sHash iv lv a) := by
  refine ki_start (cc := cX4_hashOf) (maxL := 5) (ret := (some .int)) (by decide) rfl (Nat.le_of_ble_eq_true rfl) ?_
  intro p9 e9 s m9 below meth c9 A ls hx hb hr hts hown hlocks hml hA hK hP hD hS hl
  have hl : lv_has ls 5 [(0, .ref (ad 38)), (1, .int (nI a))] := hl
  have hown : s.vm.findClass "MonitorWays$States" = some m9.cls := hown
  have hin_X4 : ∀ w ∈ u_ws "MonitorWays$States" TX4 3, w ∈ wX4_hashOf := fun w h => tcons (inX4 w h)
  have lk_f15 := hts _ (tcons tw_154)
  have lk_c60 := hts _ (tcons tw_455)
  refine lv_lconst (v := 0) hx hb dX4_hashOf_0 (by decide) ?_
  refine lv_lstore_n (lv' := [(2, .long 0), (0, .ref (ad 38)), (1, .int (nI a))]) hx hb dX4_hashOf_1 rfl hl (by decide) rfl (fun ls hl => ?_)
  refine lv_iconst (v := 0) hx hb dX4_hashOf_2 (by decide) ?_
  refine lv_istore (lv' := [(4, .int 0), (2, .long 0), (0, .ref (ad 38)), (1, .int (nI a))]) hx hb dX4_hashOf_3 hl (by decide) rfl (fun ls hl => ?_)
  refine lv_iload hx hb dX4_hashOf_5 (lv_at hl 0 rfl) ?_
  refine lv_iconst (v := 4) hx hb dX4_hashOf_7 (by decide) ?_
  refine lv_icmp_ge (tgt := 42) hx hb dX4_hashOf_8 (by decide) (fun c_1 => absurd c_1 (by decide)) (fun c_1 => ?_)
  refine lv_lload_n hx hb dX4_hashOf_11 rfl (lv_at hl 1 rfl) ?_
  refine lv_aload_n hx hb dX4_hashOf_12 rfl (lv_at hl 2 rfl) ?_
  refine kr_get (C := "MonitorWays$States") (T := TX4) (N := 3) hx hb hts hin_X4 hown hK hP 38 (by decide) (E_sts _ _ _ _) rfl 1 (by decide) lk_f15 (fun _ h9 => h9) rfl dX4_hashOf_13 ?_
  refine lv_iload_n hx hb dX4_hashOf_16 rfl (lv_at hl 3 rfl) ?_
  refine lv_iconst (v := 4) hx hb dX4_hashOf_17 (by decide) ?_
  refine lv_imul hx hb dX4_hashOf_18 ?_
  refine kr_topi (y := nI (a * 4)) (pk_mul a 4) ?_
  refine lv_iload hx hb dX4_hashOf_19 (lv_at hl 0 rfl) ?_
  refine lv_iadd hx hb dX4_hashOf_21 ?_
  refine kr_topi (y := nI ((a * 4) + 0)) (nI_add (a * 4) 0) ?_
  refine kr_laldN hx hb hK hP 39 2 (by decide) (E_words _ _ _ _) rfl (j := ((a * 4) + 0)) (by omega) hnw dX4_hashOf_22 ?_
  refine lv_lxor hx hb dX4_hashOf_23 ?_
  refine lv_ldc2 (v := (-7046029254386353131)) hx hb hown lk_c60 dX4_hashOf_24 ?_
  refine lv_lmul hx hb dX4_hashOf_27 ?_
  refine lv_lstore_n (lv' := [(2, .long ((0 ^^^ (lv 39 ((a * 4) + 0))) * (-7046029254386353131))), (4, .int 0), (0, .ref (ad 38)), (1, .int (nI a))]) hx hb dX4_hashOf_28 rfl hl (by decide) rfl (fun ls hl => ?_)
  refine lv_lload_n hx hb dX4_hashOf_29 rfl (lv_at hl 0 rfl) ?_
  refine lv_lload_n hx hb dX4_hashOf_30 rfl (lv_at hl 0 rfl) ?_
  refine lv_bipush (v := 32) hx hb dX4_hashOf_31 (by decide) ?_
  refine lv_lushr hx hb dX4_hashOf_33 rfl ?_
  refine lv_lxor hx hb dX4_hashOf_34 ?_
  refine lv_lstore_n (lv' := [(2, .long (((0 ^^^ (lv 39 ((a * 4) + 0))) * (-7046029254386353131)) ^^^ ((((0 ^^^ (lv 39 ((a * 4) + 0))) * (-7046029254386353131)).toUInt64 >>> ((32 : Int32).toInt64.toUInt64 &&& Int64.toUInt64 63)).toInt64))), (4, .int 0), (0, .ref (ad 38)), (1, .int (nI a))]) hx hb dX4_hashOf_35 rfl hl (by decide) rfl (fun ls hl => ?_)
  refine lv_iinc (v := 1) (lv' := [(4, .int 1), (2, .long (((0 ^^^ (lv 39 ((a * 4) + 0))) * (-7046029254386353131)) ^^^ ((((0 ^^^ (lv 39 ((a * 4) + 0))) * (-7046029254386353131)).toUInt64 >>> ((32 : Int32).toInt64.toUInt64 &&& Int64.toUInt64 63)).toInt64))), (0, .ref (ad 38)), (1, .int (nI a))]) hx hb dX4_hashOf_36 hl (k := 1) rfl (by decide) (by decide) rfl (fun ls hl => ?_)
  refine lv_goto (tgt := 5) hx hb dX4_hashOf_39 (by decide) ?_
  refine lv_iload hx hb dX4_hashOf_5 (lv_at hl 0 rfl) ?_
  refine lv_iconst (v := 4) hx hb dX4_hashOf_7 (by decide) ?_
  refine lv_icmp_ge (tgt := 42) hx hb dX4_hashOf_8 (by decide) (fun c_2 => absurd c_2 (by decide)) (fun c_2 => ?_)
  refine lv_lload_n hx hb dX4_hashOf_11 rfl (lv_at hl 1 rfl) ?_
  refine lv_aload_n hx hb dX4_hashOf_12 rfl (lv_at hl 2 rfl) ?_
  refine kr_get (C := "MonitorWays$States") (T := TX4) (N := 3) hx hb hts hin_X4 hown hK hP 38 (by decide) (E_sts _ _ _ _) rfl 1 (by decide) lk_f15 (fun _ h9 => h9) rfl dX4_hashOf_13 ?_
  refine lv_iload_n hx hb dX4_hashOf_16 rfl (lv_at hl 3 rfl) ?_
  refine lv_iconst (v := 4) hx hb dX4_hashOf_17 (by decide) ?_
  refine lv_imul hx hb dX4_hashOf_18 ?_
  refine kr_topi (y := nI (a * 4)) (pk_mul a 4) ?_
  refine lv_iload hx hb dX4_hashOf_19 (lv_at hl 0 rfl) ?_
  refine lv_iadd hx hb dX4_hashOf_21 ?_
  refine kr_topi (y := nI ((a * 4) + 1)) (nI_add (a * 4) 1) ?_
  refine kr_laldN hx hb hK hP 39 2 (by decide) (E_words _ _ _ _) rfl (j := ((a * 4) + 1)) (by omega) hnw dX4_hashOf_22 ?_
  refine lv_lxor hx hb dX4_hashOf_23 ?_
  refine lv_ldc2 (v := (-7046029254386353131)) hx hb hown lk_c60 dX4_hashOf_24 ?_
  refine lv_lmul hx hb dX4_hashOf_27 ?_
  refine lv_lstore_n (lv' := [(2, .long (((((0 ^^^ (lv 39 ((a * 4) + 0))) * (-7046029254386353131)) ^^^ ((((0 ^^^ (lv 39 ((a * 4) + 0))) * (-7046029254386353131)).toUInt64 >>> ((32 : Int32).toInt64.toUInt64 &&& Int64.toUInt64 63)).toInt64)) ^^^ (lv 39 ((a * 4) + 1))) * (-7046029254386353131))), (4, .int 1), (0, .ref (ad 38)), (1, .int (nI a))]) hx hb dX4_hashOf_28 rfl hl (by decide) rfl (fun ls hl => ?_)
  refine lv_lload_n hx hb dX4_hashOf_29 rfl (lv_at hl 0 rfl) ?_
  refine lv_lload_n hx hb dX4_hashOf_30 rfl (lv_at hl 0 rfl) ?_
  refine lv_bipush (v := 32) hx hb dX4_hashOf_31 (by decide) ?_
  refine lv_lushr hx hb dX4_hashOf_33 rfl ?_
  refine lv_lxor hx hb dX4_hashOf_34 ?_
  refine lv_lstore_n (lv' := [(2, .long ((((((0 ^^^ (lv 39 ((a * 4) + 0))) * (-7046029254386353131)) ^^^ ((((0 ^^^ (lv 39 ((a * 4) + 0))) * (-7046029254386353131)).toUInt64 >>> ((32 : Int32).toInt64.toUInt64 &&& Int64.toUInt64 63)).toInt64)) ^^^ (lv 39 ((a * 4) + 1))) * (-7046029254386353131)) ^^^ (((((((0 ^^^ (lv 39 ((a * 4) + 0))) * (-7046029254386353131)) ^^^ ((((0 ^^^ (lv 39 ((a * 4) + 0))) * (-7046029254386353131)).toUInt64 >>> ((32 : Int32).toInt64.toUInt64 &&& Int64.toUInt64 63)).toInt64)) ^^^ (lv 39 ((a * 4) + 1))) * (-7046029254386353131)).toUInt64 >>> ((32 : Int32).toInt64.toUInt64 &&& Int64.toUInt64 63)).toInt64))), (4, .int 1), (0, .ref (ad 38)), (1, .int (nI a))]) hx hb dX4_hashOf_35 rfl hl (by decide) rfl (fun ls hl => ?_)
  refine lv_iinc (v := 2) (lv' := [(4, .int 2), (2, .long ((((((0 ^^^ (lv 39 ((a * 4) + 0))) * (-7046029254386353131)) ^^^ ((((0 ^^^ (lv 39 ((a * 4) + 0))) * (-7046029254386353131)).toUInt64 >>> ((32 : Int32).toInt64.toUInt64 &&& Int64.toUInt64 63)).toInt64)) ^^^ (lv 39 ((a * 4) + 1))) * (-7046029254386353131)) ^^^ (((((((0 ^^^ (lv 39 ((a * 4) + 0))) * (-7046029254386353131)) ^^^ ((((0 ^^^ (lv 39 ((a * 4) + 0))) * (-7046029254386353131)).toUInt64 >>> ((32 : Int32).toInt64.toUInt64 &&& Int64.toUInt64 63)).toInt64)) ^^^ (lv 39 ((a * 4) + 1))) * (-7046029254386353131)).toUInt64 >>> ((32 : Int32).toInt64.toUInt64 &&& Int64.toUInt64 63)).toInt64))), (0, .ref (ad 38)), (1, .int (nI a))]) hx hb dX4_hashOf_36 hl (k := 1) rfl (by decide) (by decide) rfl (fun ls hl => ?_)
  refine lv_goto (tgt := 5) hx hb dX4_hashOf_39 (by decide) ?_
  refine lv_iload hx hb dX4_hashOf_5 (lv_at hl 0 rfl) ?_
  refine lv_iconst (v := 4) hx hb dX4_hashOf_7 (by decide) ?_
  refine lv_icmp_ge (tgt := 42) hx hb dX4_hashOf_8 (by decide) (fun c_3 => absurd c_3 (by decide)) (fun c_3 => ?_)
  refine lv_lload_n hx hb dX4_hashOf_11 rfl (lv_at hl 1 rfl) ?_
  refine lv_aload_n hx hb dX4_hashOf_12 rfl (lv_at hl 2 rfl) ?_
  refine kr_get (C := "MonitorWays$States") (T := TX4) (N := 3) hx hb hts hin_X4 hown hK hP 38 (by decide) (E_sts _ _ _ _) rfl 1 (by decide) lk_f15 (fun _ h9 => h9) rfl dX4_hashOf_13 ?_
  refine lv_iload_n hx hb dX4_hashOf_16 rfl (lv_at hl 3 rfl) ?_
  refine lv_iconst (v := 4) hx hb dX4_hashOf_17 (by decide) ?_
  refine lv_imul hx hb dX4_hashOf_18 ?_
  refine kr_topi (y := nI (a * 4)) (pk_mul a 4) ?_
  refine lv_iload hx hb dX4_hashOf_19 (lv_at hl 0 rfl) ?_
  refine lv_iadd hx hb dX4_hashOf_21 ?_
  refine kr_topi (y := nI ((a * 4) + 2)) (nI_add (a * 4) 2) ?_
  refine kr_laldN hx hb hK hP 39 2 (by decide) (E_words _ _ _ _) rfl (j := ((a * 4) + 2)) (by omega) hnw dX4_hashOf_22 ?_
  refine lv_lxor hx hb dX4_hashOf_23 ?_
  refine lv_ldc2 (v := (-7046029254386353131)) hx hb hown lk_c60 dX4_hashOf_24 ?_
  refine lv_lmul hx hb dX4_hashOf_27 ?_
  refine lv_lstore_n (lv' := [(2, .long ((((((((0 ^^^ (lv 39 ((a * 4) + 0))) * (-7046029254386353131)) ^^^ ((((0 ^^^ (lv 39 ((a * 4) + 0))) * (-7046029254386353131)).toUInt64 >>> ((32 : Int32).toInt64.toUInt64 &&& Int64.toUInt64 63)).toInt64)) ^^^ (lv 39 ((a * 4) + 1))) * (-7046029254386353131)) ^^^ (((((((0 ^^^ (lv 39 ((a * 4) + 0))) * (-7046029254386353131)) ^^^ ((((0 ^^^ (lv 39 ((a * 4) + 0))) * (-7046029254386353131)).toUInt64 >>> ((32 : Int32).toInt64.toUInt64 &&& Int64.toUInt64 63)).toInt64)) ^^^ (lv 39 ((a * 4) + 1))) * (-7046029254386353131)).toUInt64 >>> ((32 : Int32).toInt64.toUInt64 &&& Int64.toUInt64 63)).toInt64)) ^^^ (lv 39 ((a * 4) + 2))) * (-7046029254386353131))), (4, .int 2), (0, .ref (ad 38)), (1, .int (nI a))]) hx hb dX4_hashOf_28 rfl hl (by decide) rfl (fun ls hl => ?_)
  refine lv_lload_n hx hb dX4_hashOf_29 rfl (lv_at hl 0 rfl) ?_
  refine lv_lload_n hx hb dX4_hashOf_30 rfl (lv_at hl 0 rfl) ?_
  refine lv_bipush (v := 32) hx hb dX4_hashOf_31 (by decide) ?_
  refine lv_lushr hx hb dX4_hashOf_33 rfl ?_
  refine lv_lxor hx hb dX4_hashOf_34 ?_
  refine lv_lstore_n (lv' := [(2, .long (((((((((0 ^^^ (lv 39 ((a * 4) + 0))) * (-7046029254386353131)) ^^^ ((((0 ^^^ (lv 39 ((a * 4) + 0))) * (-7046029254386353131)).toUInt64 >>> ((32 : Int32).toInt64.toUInt64 &&& Int64.toUInt64 63)).toInt64)) ^^^ (lv 39 ((a * 4) + 1))) * (-7046029254386353131)) ^^^ (((((((0 ^^^ (lv 39 ((a * 4) + 0))) * (-7046029254386353131)) ^^^ ((((0 ^^^ (lv 39 ((a * 4) + 0))) * (-7046029254386353131)).toUInt64 >>> ((32 : Int32).toInt64.toUInt64 &&& Int64.toUInt64 63)).toInt64)) ^^^ (lv 39 ((a * 4) + 1))) * (-7046029254386353131)).toUInt64 >>> ((32 : Int32).toInt64.toUInt64 &&& Int64.toUInt64 63)).toInt64)) ^^^ (lv 39 ((a * 4) + 2))) * (-7046029254386353131)) ^^^ ((((((((((0 ^^^ (lv 39 ((a * 4) + 0))) * (-7046029254386353131)) ^^^ ((((0 ^^^ (lv 39 ((a * 4) + 0))) * (-7046029254386353131)).toUInt64 >>> ((32 : Int32).toInt64.toUInt64 &&& Int64.toUInt64 63)).toInt64)) ^^^ (lv 39 ((a * 4) + 1))) * (-7046029254386353131)) ^^^ (((((((0 ^^^ (lv 39 ((a * 4) + 0))) * (-7046029254386353131)) ^^^ ((((0 ^^^ (lv 39 ((a * 4) + 0))) * (-7046029254386353131)).toUInt64 >>> ((32 : Int32).toInt64.toUInt64 &&& Int64.toUInt64 63)).toInt64)) ^^^ (lv 39 ((a * 4) + 1))) * (-7046029254386353131)).toUInt64 >>> ((32 : Int32).toInt64.toUInt64 &&& Int64.toUInt64 63)).toInt64)) ^^^ (lv 39 ((a * 4) + 2))) * (-7046029254386353131)).toUInt64 >>> ((32 : Int32).toInt64.toUInt64 &&& Int64.toUInt64 63)).toInt64))), (4, .int 2), (0, .ref (ad 38)), (1, .int (nI a))]) hx hb dX4_hashOf_35 rfl hl (by decide) rfl (fun ls hl => ?_)
  refine lv_iinc (v := 3) (lv' := [(4, .int 3), (2, .long (((((((((0 ^^^ (lv 39 ((a * 4) + 0))) * (-7046029254386353131)) ^^^ ((((0 ^^^ (lv 39 ((a * 4) + 0))) * (-7046029254386353131)).toUInt64 >>> ((32 : Int32).toInt64.toUInt64 &&& Int64.toUInt64 63)).toInt64)) ^^^ (lv 39 ((a * 4) + 1))) * (-7046029254386353131)) ^^^ (((((((0 ^^^ (lv 39 ((a * 4) + 0))) * (-7046029254386353131)) ^^^ ((((0 ^^^ (lv 39 ((a * 4) + 0))) * (-7046029254386353131)).toUInt64 >>> ((32 : Int32).toInt64.toUInt64 &&& Int64.toUInt64 63)).toInt64)) ^^^ (lv 39 ((a * 4) + 1))) * (-7046029254386353131)).toUInt64 >>> ((32 : Int32).toInt64.toUInt64 &&& Int64.toUInt64 63)).toInt64)) ^^^ (lv 39 ((a * 4) + 2))) * (-7046029254386353131)) ^^^ ((((((((((0 ^^^ (lv 39 ((a * 4) + 0))) * (-7046029254386353131)) ^^^ ((((0 ^^^ (lv 39 ((a * 4) + 0))) * (-7046029254386353131)).toUInt64 >>> ((32 : Int32).toInt64.toUInt64 &&& Int64.toUInt64 63)).toInt64)) ^^^ (lv 39 ((a * 4) + 1))) * (-7046029254386353131)) ^^^ (((((((0 ^^^ (lv 39 ((a * 4) + 0))) * (-7046029254386353131)) ^^^ ((((0 ^^^ (lv 39 ((a * 4) + 0))) * (-7046029254386353131)).toUInt64 >>> ((32 : Int32).toInt64.toUInt64 &&& Int64.toUInt64 63)).toInt64)) ^^^ (lv 39 ((a * 4) + 1))) * (-7046029254386353131)).toUInt64 >>> ((32 : Int32).toInt64.toUInt64 &&& Int64.toUInt64 63)).toInt64)) ^^^ (lv 39 ((a * 4) + 2))) * (-7046029254386353131)).toUInt64 >>> ((32 : Int32).toInt64.toUInt64 &&& Int64.toUInt64 63)).toInt64))), (0, .ref (ad 38)), (1, .int (nI a))]) hx hb dX4_hashOf_36 hl (k := 1) rfl (by decide) (by decide) rfl (fun ls hl => ?_)
  refine lv_goto (tgt := 5) hx hb dX4_hashOf_39 (by decide) ?_
  refine lv_iload hx hb dX4_hashOf_5 (lv_at hl 0 rfl) ?_
  refine lv_iconst (v := 4) hx hb dX4_hashOf_7 (by decide) ?_
  refine lv_icmp_ge (tgt := 42) hx hb dX4_hashOf_8 (by decide) (fun c_4 => absurd c_4 (by decide)) (fun c_4 => ?_)
  refine lv_lload_n hx hb dX4_hashOf_11 rfl (lv_at hl 1 rfl) ?_
  refine lv_aload_n hx hb dX4_hashOf_12 rfl (lv_at hl 2 rfl) ?_
  refine kr_get (C := "MonitorWays$States") (T := TX4) (N := 3) hx hb hts hin_X4 hown hK hP 38 (by decide) (E_sts _ _ _ _) rfl 1 (by decide) lk_f15 (fun _ h9 => h9) rfl dX4_hashOf_13 ?_
  refine lv_iload_n hx hb dX4_hashOf_16 rfl (lv_at hl 3 rfl) ?_
  refine lv_iconst (v := 4) hx hb dX4_hashOf_17 (by decide) ?_
  refine lv_imul hx hb dX4_hashOf_18 ?_
  refine kr_topi (y := nI (a * 4)) (pk_mul a 4) ?_
  refine lv_iload hx hb dX4_hashOf_19 (lv_at hl 0 rfl) ?_
  refine lv_iadd hx hb dX4_hashOf_21 ?_
  refine kr_topi (y := nI ((a * 4) + 3)) (nI_add (a * 4) 3) ?_
  refine kr_laldN hx hb hK hP 39 2 (by decide) (E_words _ _ _ _) rfl (j := ((a * 4) + 3)) (by omega) hnw dX4_hashOf_22 ?_
  refine lv_lxor hx hb dX4_hashOf_23 ?_
  refine lv_ldc2 (v := (-7046029254386353131)) hx hb hown lk_c60 dX4_hashOf_24 ?_
  refine lv_lmul hx hb dX4_hashOf_27 ?_
  refine lv_lstore_n (lv' := [(2, .long (((((((((((0 ^^^ (lv 39 ((a * 4) + 0))) * (-7046029254386353131)) ^^^ ((((0 ^^^ (lv 39 ((a * 4) + 0))) * (-7046029254386353131)).toUInt64 >>> ((32 : Int32).toInt64.toUInt64 &&& Int64.toUInt64 63)).toInt64)) ^^^ (lv 39 ((a * 4) + 1))) * (-7046029254386353131)) ^^^ (((((((0 ^^^ (lv 39 ((a * 4) + 0))) * (-7046029254386353131)) ^^^ ((((0 ^^^ (lv 39 ((a * 4) + 0))) * (-7046029254386353131)).toUInt64 >>> ((32 : Int32).toInt64.toUInt64 &&& Int64.toUInt64 63)).toInt64)) ^^^ (lv 39 ((a * 4) + 1))) * (-7046029254386353131)).toUInt64 >>> ((32 : Int32).toInt64.toUInt64 &&& Int64.toUInt64 63)).toInt64)) ^^^ (lv 39 ((a * 4) + 2))) * (-7046029254386353131)) ^^^ ((((((((((0 ^^^ (lv 39 ((a * 4) + 0))) * (-7046029254386353131)) ^^^ ((((0 ^^^ (lv 39 ((a * 4) + 0))) * (-7046029254386353131)).toUInt64 >>> ((32 : Int32).toInt64.toUInt64 &&& Int64.toUInt64 63)).toInt64)) ^^^ (lv 39 ((a * 4) + 1))) * (-7046029254386353131)) ^^^ (((((((0 ^^^ (lv 39 ((a * 4) + 0))) * (-7046029254386353131)) ^^^ ((((0 ^^^ (lv 39 ((a * 4) + 0))) * (-7046029254386353131)).toUInt64 >>> ((32 : Int32).toInt64.toUInt64 &&& Int64.toUInt64 63)).toInt64)) ^^^ (lv 39 ((a * 4) + 1))) * (-7046029254386353131)).toUInt64 >>> ((32 : Int32).toInt64.toUInt64 &&& Int64.toUInt64 63)).toInt64)) ^^^ (lv 39 ((a * 4) + 2))) * (-7046029254386353131)).toUInt64 >>> ((32 : Int32).toInt64.toUInt64 &&& Int64.toUInt64 63)).toInt64)) ^^^ (lv 39 ((a * 4) + 3))) * (-7046029254386353131))), (4, .int 3), (0, .ref (ad 38)), (1, .int (nI a))]) hx hb dX4_hashOf_28 rfl hl (by decide) rfl (fun ls hl => ?_)
  refine lv_lload_n hx hb dX4_hashOf_29 rfl (lv_at hl 0 rfl) ?_
  refine lv_lload_n hx hb dX4_hashOf_30 rfl (lv_at hl 0 rfl) ?_
  refine lv_bipush (v := 32) hx hb dX4_hashOf_31 (by decide) ?_
  refine lv_lushr hx hb dX4_hashOf_33 rfl ?_
  refine lv_lxor hx hb dX4_hashOf_34 ?_
  refine lv_lstore_n (lv' := [(2, .long ((((((((((((0 ^^^ (lv 39 ((a * 4) + 0))) * (-7046029254386353131)) ^^^ ((((0 ^^^ (lv 39 ((a * 4) + 0))) * (-7046029254386353131)).toUInt64 >>> ((32 : Int32).toInt64.toUInt64 &&& Int64.toUInt64 63)).toInt64)) ^^^ (lv 39 ((a * 4) + 1))) * (-7046029254386353131)) ^^^ (((((((0 ^^^ (lv 39 ((a * 4) + 0))) * (-7046029254386353131)) ^^^ ((((0 ^^^ (lv 39 ((a * 4) + 0))) * (-7046029254386353131)).toUInt64 >>> ((32 : Int32).toInt64.toUInt64 &&& Int64.toUInt64 63)).toInt64)) ^^^ (lv 39 ((a * 4) + 1))) * (-7046029254386353131)).toUInt64 >>> ((32 : Int32).toInt64.toUInt64 &&& Int64.toUInt64 63)).toInt64)) ^^^ (lv 39 ((a * 4) + 2))) * (-7046029254386353131)) ^^^ ((((((((((0 ^^^ (lv 39 ((a * 4) + 0))) * (-7046029254386353131)) ^^^ ((((0 ^^^ (lv 39 ((a * 4) + 0))) * (-7046029254386353131)).toUInt64 >>> ((32 : Int32).toInt64.toUInt64 &&& Int64.toUInt64 63)).toInt64)) ^^^ (lv 39 ((a * 4) + 1))) * (-7046029254386353131)) ^^^ (((((((0 ^^^ (lv 39 ((a * 4) + 0))) * (-7046029254386353131)) ^^^ ((((0 ^^^ (lv 39 ((a * 4) + 0))) * (-7046029254386353131)).toUInt64 >>> ((32 : Int32).toInt64.toUInt64 &&& Int64.toUInt64 63)).toInt64)) ^^^ (lv 39 ((a * 4) + 1))) * (-7046029254386353131)).toUInt64 >>> ((32 : Int32).toInt64.toUInt64 &&& Int64.toUInt64 63)).toInt64)) ^^^ (lv 39 ((a * 4) + 2))) * (-7046029254386353131)).toUInt64 >>> ((32 : Int32).toInt64.toUInt64 &&& Int64.toUInt64 63)).toInt64)) ^^^ (lv 39 ((a * 4) + 3))) * (-7046029254386353131)) ^^^ (((((((((((((0 ^^^ (lv 39 ((a * 4) + 0))) * (-7046029254386353131)) ^^^ ((((0 ^^^ (lv 39 ((a * 4) + 0))) * (-7046029254386353131)).toUInt64 >>> ((32 : Int32).toInt64.toUInt64 &&& Int64.toUInt64 63)).toInt64)) ^^^ (lv 39 ((a * 4) + 1))) * (-7046029254386353131)) ^^^ (((((((0 ^^^ (lv 39 ((a * 4) + 0))) * (-7046029254386353131)) ^^^ ((((0 ^^^ (lv 39 ((a * 4) + 0))) * (-7046029254386353131)).toUInt64 >>> ((32 : Int32).toInt64.toUInt64 &&& Int64.toUInt64 63)).toInt64)) ^^^ (lv 39 ((a * 4) + 1))) * (-7046029254386353131)).toUInt64 >>> ((32 : Int32).toInt64.toUInt64 &&& Int64.toUInt64 63)).toInt64)) ^^^ (lv 39 ((a * 4) + 2))) * (-7046029254386353131)) ^^^ ((((((((((0 ^^^ (lv 39 ((a * 4) + 0))) * (-7046029254386353131)) ^^^ ((((0 ^^^ (lv 39 ((a * 4) + 0))) * (-7046029254386353131)).toUInt64 >>> ((32 : Int32).toInt64.toUInt64 &&& Int64.toUInt64 63)).toInt64)) ^^^ (lv 39 ((a * 4) + 1))) * (-7046029254386353131)) ^^^ (((((((0 ^^^ (lv 39 ((a * 4) + 0))) * (-7046029254386353131)) ^^^ ((((0 ^^^ (lv 39 ((a * 4) + 0))) * (-7046029254386353131)).toUInt64 >>> ((32 : Int32).toInt64.toUInt64 &&& Int64.toUInt64 63)).toInt64)) ^^^ (lv 39 ((a * 4) + 1))) * (-7046029254386353131)).toUInt64 >>> ((32 : Int32).toInt64.toUInt64 &&& Int64.toUInt64 63)).toInt64)) ^^^ (lv 39 ((a * 4) + 2))) * (-7046029254386353131)).toUInt64 >>> ((32 : Int32).toInt64.toUInt64 &&& Int64.toUInt64 63)).toInt64)) ^^^ (lv 39 ((a * 4) + 3))) * (-7046029254386353131)).toUInt64 >>> ((32 : Int32).toInt64.toUInt64 &&& Int64.toUInt64 63)).toInt64))), (4, .int 3), (0, .ref (ad 38)), (1, .int (nI a))]) hx hb dX4_hashOf_35 rfl hl (by decide) rfl (fun ls hl => ?_)
  refine lv_iinc (v := 4) (lv' := [(4, .int 4), (2, .long ((((((((((((0 ^^^ (lv 39 ((a * 4) + 0))) * (-7046029254386353131)) ^^^ ((((0 ^^^ (lv 39 ((a * 4) + 0))) * (-7046029254386353131)).toUInt64 >>> ((32 : Int32).toInt64.toUInt64 &&& Int64.toUInt64 63)).toInt64)) ^^^ (lv 39 ((a * 4) + 1))) * (-7046029254386353131)) ^^^ (((((((0 ^^^ (lv 39 ((a * 4) + 0))) * (-7046029254386353131)) ^^^ ((((0 ^^^ (lv 39 ((a * 4) + 0))) * (-7046029254386353131)).toUInt64 >>> ((32 : Int32).toInt64.toUInt64 &&& Int64.toUInt64 63)).toInt64)) ^^^ (lv 39 ((a * 4) + 1))) * (-7046029254386353131)).toUInt64 >>> ((32 : Int32).toInt64.toUInt64 &&& Int64.toUInt64 63)).toInt64)) ^^^ (lv 39 ((a * 4) + 2))) * (-7046029254386353131)) ^^^ ((((((((((0 ^^^ (lv 39 ((a * 4) + 0))) * (-7046029254386353131)) ^^^ ((((0 ^^^ (lv 39 ((a * 4) + 0))) * (-7046029254386353131)).toUInt64 >>> ((32 : Int32).toInt64.toUInt64 &&& Int64.toUInt64 63)).toInt64)) ^^^ (lv 39 ((a * 4) + 1))) * (-7046029254386353131)) ^^^ (((((((0 ^^^ (lv 39 ((a * 4) + 0))) * (-7046029254386353131)) ^^^ ((((0 ^^^ (lv 39 ((a * 4) + 0))) * (-7046029254386353131)).toUInt64 >>> ((32 : Int32).toInt64.toUInt64 &&& Int64.toUInt64 63)).toInt64)) ^^^ (lv 39 ((a * 4) + 1))) * (-7046029254386353131)).toUInt64 >>> ((32 : Int32).toInt64.toUInt64 &&& Int64.toUInt64 63)).toInt64)) ^^^ (lv 39 ((a * 4) + 2))) * (-7046029254386353131)).toUInt64 >>> ((32 : Int32).toInt64.toUInt64 &&& Int64.toUInt64 63)).toInt64)) ^^^ (lv 39 ((a * 4) + 3))) * (-7046029254386353131)) ^^^ (((((((((((((0 ^^^ (lv 39 ((a * 4) + 0))) * (-7046029254386353131)) ^^^ ((((0 ^^^ (lv 39 ((a * 4) + 0))) * (-7046029254386353131)).toUInt64 >>> ((32 : Int32).toInt64.toUInt64 &&& Int64.toUInt64 63)).toInt64)) ^^^ (lv 39 ((a * 4) + 1))) * (-7046029254386353131)) ^^^ (((((((0 ^^^ (lv 39 ((a * 4) + 0))) * (-7046029254386353131)) ^^^ ((((0 ^^^ (lv 39 ((a * 4) + 0))) * (-7046029254386353131)).toUInt64 >>> ((32 : Int32).toInt64.toUInt64 &&& Int64.toUInt64 63)).toInt64)) ^^^ (lv 39 ((a * 4) + 1))) * (-7046029254386353131)).toUInt64 >>> ((32 : Int32).toInt64.toUInt64 &&& Int64.toUInt64 63)).toInt64)) ^^^ (lv 39 ((a * 4) + 2))) * (-7046029254386353131)) ^^^ ((((((((((0 ^^^ (lv 39 ((a * 4) + 0))) * (-7046029254386353131)) ^^^ ((((0 ^^^ (lv 39 ((a * 4) + 0))) * (-7046029254386353131)).toUInt64 >>> ((32 : Int32).toInt64.toUInt64 &&& Int64.toUInt64 63)).toInt64)) ^^^ (lv 39 ((a * 4) + 1))) * (-7046029254386353131)) ^^^ (((((((0 ^^^ (lv 39 ((a * 4) + 0))) * (-7046029254386353131)) ^^^ ((((0 ^^^ (lv 39 ((a * 4) + 0))) * (-7046029254386353131)).toUInt64 >>> ((32 : Int32).toInt64.toUInt64 &&& Int64.toUInt64 63)).toInt64)) ^^^ (lv 39 ((a * 4) + 1))) * (-7046029254386353131)).toUInt64 >>> ((32 : Int32).toInt64.toUInt64 &&& Int64.toUInt64 63)).toInt64)) ^^^ (lv 39 ((a * 4) + 2))) * (-7046029254386353131)).toUInt64 >>> ((32 : Int32).toInt64.toUInt64 &&& Int64.toUInt64 63)).toInt64)) ^^^ (lv 39 ((a * 4) + 3))) * (-7046029254386353131)).toUInt64 >>> ((32 : Int32).toInt64.toUInt64 &&& Int64.toUInt64 63)).toInt64))), (0, .ref (ad 38)), (1, .int (nI a))]) hx hb dX4_hashOf_36 hl (k := 1) rfl (by decide) (by decide) rfl (fun ls hl => ?_)
  refine lv_goto (tgt := 5) hx hb dX4_hashOf_39 (by decide) ?_
  refine lv_iload hx hb dX4_hashOf_5 (lv_at hl 0 rfl) ?_
  refine lv_iconst (v := 4) hx hb dX4_hashOf_7 (by decide) ?_
  refine lv_icmp_ge (tgt := 42) hx hb dX4_hashOf_8 (by decide) (fun c_5 => ?_) (fun c_5 => absurd (by decide) c_5)
  refine lv_lload_n hx hb dX4_hashOf_42 rfl (lv_at hl 1 rfl) ?_
  refine lv_l2i hx hb dX4_hashOf_43 rfl ?_
  exact kr_iret hx hb hr hlocks hK hP hD hS rfl rfl dX4_hashOf_44
def r_sSame (iv : Nat → Nat → Int32) (lv : Nat → Nat → Int64) (a b : Nat) : Int32 := if lv 39 ((a * 4) + 0) = lv 39 ((b * 4) + 0) then if lv 39 ((a * 4) + 1) = lv 39 ((b * 4) + 1) then if lv 39 ((a * 4) + 2) = lv 39 ((b * 4) + 2) then if lv 39 ((a * 4) + 3) = lv 39 ((b * 4) + 3) then 1 else 0 else 0 else 0 else 0
theorem nb_sSame (iv : Nat → Nat → Int32) (lv : Nat → Nat → Int64) (a b : Nat) : narrow .boolean (.int (r_sSame iv lv a b)) = .int (r_sSame iv lv a b) := by
  unfold r_sSame; repeat' split
  all_goals rfl
set_option maxHeartbeats 4000000 in
set_option maxRecDepth 100000 in
theorem c_sSame (l : Launch) (D : va_G) (gc : Nat → ClassId) (ad ln : Nat → Nat) (iv : Nat → Nat → Int32) (lv : Nat → Nat → Int64) (a b : Nat) (hnw : ln 39 < 2 ^ 31) (ha : 4 * a + 4 ≤ ln 39) (hb : 4 * b + 4 ≤ ln 39) : kMi l yX4_areSame wX4_areSame ({ frames := 0, cells := 0, slots := 0, locals := 0 }) D vwCl (kT gc) 42 (kE gc) [.ref (ad 38), .int (nI a), .int (nI b)] (ad, ln, iv, lv) (ad, ln, iv, lv) (r_sSame iv lv a b) := by
  refine ki_start (cc := cX4_areSame) (maxL := 4) (ret := (some .boolean)) (by decide) rfl (Nat.le_of_ble_eq_true rfl) ?_
  intro p9 e9 s m9 below meth c9 A ls hx hb hr hts hown hlocks hml hA hK hP hD hS hl
  have hl : lv_has ls 4 [(0, .ref (ad 38)), (1, .int (nI a)), (2, .int (nI b))] := hl
  have hown : s.vm.findClass "MonitorWays$States" = some m9.cls := hown
  have hin_X4 : ∀ w ∈ u_ws "MonitorWays$States" TX4 3, w ∈ wX4_areSame := fun w h => tcons (inX4 w h)
  have lk_f15 := hts _ (tcons tw_154)
  refine lv_iconst (v := 0) hx hb dX4_areSame_0 (by decide) ?_
  refine lv_istore_n (lv' := [(3, .int 0), (0, .ref (ad 38)), (1, .int (nI a)), (2, .int (nI b))]) hx hb dX4_areSame_1 rfl hl (by decide) rfl (fun ls hl => ?_)
  refine lv_iload_n hx hb dX4_areSame_2 rfl (lv_at hl 0 rfl) ?_
  refine lv_iconst (v := 4) hx hb dX4_areSame_3 (by decide) ?_
  refine lv_icmp_ge (tgt := 39) hx hb dX4_areSame_4 (by decide) (fun c_1 => absurd c_1 (by decide)) (fun c_1 => ?_)
  refine lv_aload_n hx hb dX4_areSame_7 rfl (lv_at hl 1 rfl) ?_
  refine kr_get (C := "MonitorWays$States") (T := TX4) (N := 3) hx hb hts hin_X4 hown hK hP 38 (by decide) (E_sts _ _ _ _) rfl 1 (by decide) lk_f15 (fun _ h9 => h9) rfl dX4_areSame_8 ?_
  refine lv_iload_n hx hb dX4_areSame_11 rfl (lv_at hl 2 rfl) ?_
  refine lv_iconst (v := 4) hx hb dX4_areSame_12 (by decide) ?_
  refine lv_imul hx hb dX4_areSame_13 ?_
  refine kr_topi (y := nI (a * 4)) (pk_mul a 4) ?_
  refine lv_iload_n hx hb dX4_areSame_14 rfl (lv_at hl 0 rfl) ?_
  refine lv_iadd hx hb dX4_areSame_15 ?_
  refine kr_topi (y := nI ((a * 4) + 0)) (nI_add (a * 4) 0) ?_
  refine kr_laldN hx hb hK hP 39 2 (by decide) (E_words _ _ _ _) rfl (j := ((a * 4) + 0)) (by omega) hnw dX4_areSame_16 ?_
  refine lv_aload_n hx hb dX4_areSame_17 rfl (lv_at hl 1 rfl) ?_
  refine kr_get (C := "MonitorWays$States") (T := TX4) (N := 3) hx hb hts hin_X4 hown hK hP 38 (by decide) (E_sts _ _ _ _) rfl 1 (by decide) lk_f15 (fun _ h9 => h9) rfl dX4_areSame_18 ?_
  refine lv_iload_n hx hb dX4_areSame_21 rfl (lv_at hl 3 rfl) ?_
  refine lv_iconst (v := 4) hx hb dX4_areSame_22 (by decide) ?_
  refine lv_imul hx hb dX4_areSame_23 ?_
  refine kr_topi (y := nI (b * 4)) (pk_mul b 4) ?_
  refine lv_iload_n hx hb dX4_areSame_24 rfl (lv_at hl 0 rfl) ?_
  refine lv_iadd hx hb dX4_areSame_25 ?_
  refine kr_topi (y := nI ((b * 4) + 0)) (nI_add (b * 4) 0) ?_
  refine kr_laldN hx hb hK hP 39 2 (by decide) (E_words _ _ _ _) rfl (j := ((b * 4) + 0)) (by omega) hnw dX4_areSame_26 ?_
  refine W.lcmp hx hb dX4_areSame_27 ?_
  refine lv_if_eq (tgt := 33) hx hb dX4_areSame_28 (by decide) (fun c_2 => ?_) (fun c_2 => ?_)
  · replace c_2 : lv 39 ((a * 4) + 0) = lv 39 ((b * 4) + 0) := (lg_cmp_eq _ _).mp c_2
    refine lv_iinc (v := 1) (lv' := [(3, .int 1), (0, .ref (ad 38)), (1, .int (nI a)), (2, .int (nI b))]) hx hb dX4_areSame_33 hl (k := 0) rfl (by decide) (by decide) rfl (fun ls hl => ?_)
    refine lv_goto (tgt := 2) hx hb dX4_areSame_36 (by decide) ?_
    refine lv_iload_n hx hb dX4_areSame_2 rfl (lv_at hl 0 rfl) ?_
    refine lv_iconst (v := 4) hx hb dX4_areSame_3 (by decide) ?_
    refine lv_icmp_ge (tgt := 39) hx hb dX4_areSame_4 (by decide) (fun c_3 => absurd c_3 (by decide)) (fun c_3 => ?_)
    refine lv_aload_n hx hb dX4_areSame_7 rfl (lv_at hl 1 rfl) ?_
    refine kr_get (C := "MonitorWays$States") (T := TX4) (N := 3) hx hb hts hin_X4 hown hK hP 38 (by decide) (E_sts _ _ _ _) rfl 1 (by decide) lk_f15 (fun _ h9 => h9) rfl dX4_areSame_8 ?_
    refine lv_iload_n hx hb dX4_areSame_11 rfl (lv_at hl 2 rfl) ?_
    refine lv_iconst (v := 4) hx hb dX4_areSame_12 (by decide) ?_
    refine lv_imul hx hb dX4_areSame_13 ?_
    refine kr_topi (y := nI (a * 4)) (pk_mul a 4) ?_
    refine lv_iload_n hx hb dX4_areSame_14 rfl (lv_at hl 0 rfl) ?_
    refine lv_iadd hx hb dX4_areSame_15 ?_
    refine kr_topi (y := nI ((a * 4) + 1)) (nI_add (a * 4) 1) ?_
    refine kr_laldN hx hb hK hP 39 2 (by decide) (E_words _ _ _ _) rfl (j := ((a * 4) + 1)) (by omega) hnw dX4_areSame_16 ?_
    refine lv_aload_n hx hb dX4_areSame_17 rfl (lv_at hl 1 rfl) ?_
    refine kr_get (C := "MonitorWays$States") (T := TX4) (N := 3) hx hb hts hin_X4 hown hK hP 38 (by decide) (E_sts _ _ _ _) rfl 1 (by decide) lk_f15 (fun _ h9 => h9) rfl dX4_areSame_18 ?_
    refine lv_iload_n hx hb dX4_areSame_21 rfl (lv_at hl 3 rfl) ?_
    refine lv_iconst (v := 4) hx hb dX4_areSame_22 (by decide) ?_
    refine lv_imul hx hb dX4_areSame_23 ?_
    refine kr_topi (y := nI (b * 4)) (pk_mul b 4) ?_
    refine lv_iload_n hx hb dX4_areSame_24 rfl (lv_at hl 0 rfl) ?_
    refine lv_iadd hx hb dX4_areSame_25 ?_
    refine kr_topi (y := nI ((b * 4) + 1)) (nI_add (b * 4) 1) ?_
    refine kr_laldN hx hb hK hP 39 2 (by decide) (E_words _ _ _ _) rfl (j := ((b * 4) + 1)) (by omega) hnw dX4_areSame_26 ?_
    refine W.lcmp hx hb dX4_areSame_27 ?_
    refine lv_if_eq (tgt := 33) hx hb dX4_areSame_28 (by decide) (fun c_4 => ?_) (fun c_4 => ?_)
    · replace c_4 : lv 39 ((a * 4) + 1) = lv 39 ((b * 4) + 1) := (lg_cmp_eq _ _).mp c_4
      refine lv_iinc (v := 2) (lv' := [(3, .int 2), (0, .ref (ad 38)), (1, .int (nI a)), (2, .int (nI b))]) hx hb dX4_areSame_33 hl (k := 0) rfl (by decide) (by decide) rfl (fun ls hl => ?_)
      refine lv_goto (tgt := 2) hx hb dX4_areSame_36 (by decide) ?_
      refine lv_iload_n hx hb dX4_areSame_2 rfl (lv_at hl 0 rfl) ?_
      refine lv_iconst (v := 4) hx hb dX4_areSame_3 (by decide) ?_
      refine lv_icmp_ge (tgt := 39) hx hb dX4_areSame_4 (by decide) (fun c_5 => absurd c_5 (by decide)) (fun c_5 => ?_)
      refine lv_aload_n hx hb dX4_areSame_7 rfl (lv_at hl 1 rfl) ?_
      refine kr_get (C := "MonitorWays$States") (T := TX4) (N := 3) hx hb hts hin_X4 hown hK hP 38 (by decide) (E_sts _ _ _ _) rfl 1 (by decide) lk_f15 (fun _ h9 => h9) rfl dX4_areSame_8 ?_
      refine lv_iload_n hx hb dX4_areSame_11 rfl (lv_at hl 2 rfl) ?_
      refine lv_iconst (v := 4) hx hb dX4_areSame_12 (by decide) ?_
      refine lv_imul hx hb dX4_areSame_13 ?_
      refine kr_topi (y := nI (a * 4)) (pk_mul a 4) ?_
      refine lv_iload_n hx hb dX4_areSame_14 rfl (lv_at hl 0 rfl) ?_
      refine lv_iadd hx hb dX4_areSame_15 ?_
      refine kr_topi (y := nI ((a * 4) + 2)) (nI_add (a * 4) 2) ?_
      refine kr_laldN hx hb hK hP 39 2 (by decide) (E_words _ _ _ _) rfl (j := ((a * 4) + 2)) (by omega) hnw dX4_areSame_16 ?_
      refine lv_aload_n hx hb dX4_areSame_17 rfl (lv_at hl 1 rfl) ?_
      refine kr_get (C := "MonitorWays$States") (T := TX4) (N := 3) hx hb hts hin_X4 hown hK hP 38 (by decide) (E_sts _ _ _ _) rfl 1 (by decide) lk_f15 (fun _ h9 => h9) rfl dX4_areSame_18 ?_
      refine lv_iload_n hx hb dX4_areSame_21 rfl (lv_at hl 3 rfl) ?_
      refine lv_iconst (v := 4) hx hb dX4_areSame_22 (by decide) ?_
      refine lv_imul hx hb dX4_areSame_23 ?_
      refine kr_topi (y := nI (b * 4)) (pk_mul b 4) ?_
      refine lv_iload_n hx hb dX4_areSame_24 rfl (lv_at hl 0 rfl) ?_
      refine lv_iadd hx hb dX4_areSame_25 ?_
      refine kr_topi (y := nI ((b * 4) + 2)) (nI_add (b * 4) 2) ?_
      refine kr_laldN hx hb hK hP 39 2 (by decide) (E_words _ _ _ _) rfl (j := ((b * 4) + 2)) (by omega) hnw dX4_areSame_26 ?_
      refine W.lcmp hx hb dX4_areSame_27 ?_
      refine lv_if_eq (tgt := 33) hx hb dX4_areSame_28 (by decide) (fun c_6 => ?_) (fun c_6 => ?_)
      · replace c_6 : lv 39 ((a * 4) + 2) = lv 39 ((b * 4) + 2) := (lg_cmp_eq _ _).mp c_6
        refine lv_iinc (v := 3) (lv' := [(3, .int 3), (0, .ref (ad 38)), (1, .int (nI a)), (2, .int (nI b))]) hx hb dX4_areSame_33 hl (k := 0) rfl (by decide) (by decide) rfl (fun ls hl => ?_)
        refine lv_goto (tgt := 2) hx hb dX4_areSame_36 (by decide) ?_
        refine lv_iload_n hx hb dX4_areSame_2 rfl (lv_at hl 0 rfl) ?_
        refine lv_iconst (v := 4) hx hb dX4_areSame_3 (by decide) ?_
        refine lv_icmp_ge (tgt := 39) hx hb dX4_areSame_4 (by decide) (fun c_7 => absurd c_7 (by decide)) (fun c_7 => ?_)
        refine lv_aload_n hx hb dX4_areSame_7 rfl (lv_at hl 1 rfl) ?_
        refine kr_get (C := "MonitorWays$States") (T := TX4) (N := 3) hx hb hts hin_X4 hown hK hP 38 (by decide) (E_sts _ _ _ _) rfl 1 (by decide) lk_f15 (fun _ h9 => h9) rfl dX4_areSame_8 ?_
        refine lv_iload_n hx hb dX4_areSame_11 rfl (lv_at hl 2 rfl) ?_
        refine lv_iconst (v := 4) hx hb dX4_areSame_12 (by decide) ?_
        refine lv_imul hx hb dX4_areSame_13 ?_
        refine kr_topi (y := nI (a * 4)) (pk_mul a 4) ?_
        refine lv_iload_n hx hb dX4_areSame_14 rfl (lv_at hl 0 rfl) ?_
        refine lv_iadd hx hb dX4_areSame_15 ?_
        refine kr_topi (y := nI ((a * 4) + 3)) (nI_add (a * 4) 3) ?_
        refine kr_laldN hx hb hK hP 39 2 (by decide) (E_words _ _ _ _) rfl (j := ((a * 4) + 3)) (by omega) hnw dX4_areSame_16 ?_
        refine lv_aload_n hx hb dX4_areSame_17 rfl (lv_at hl 1 rfl) ?_
        refine kr_get (C := "MonitorWays$States") (T := TX4) (N := 3) hx hb hts hin_X4 hown hK hP 38 (by decide) (E_sts _ _ _ _) rfl 1 (by decide) lk_f15 (fun _ h9 => h9) rfl dX4_areSame_18 ?_
        refine lv_iload_n hx hb dX4_areSame_21 rfl (lv_at hl 3 rfl) ?_
        refine lv_iconst (v := 4) hx hb dX4_areSame_22 (by decide) ?_
        refine lv_imul hx hb dX4_areSame_23 ?_
        refine kr_topi (y := nI (b * 4)) (pk_mul b 4) ?_
        refine lv_iload_n hx hb dX4_areSame_24 rfl (lv_at hl 0 rfl) ?_
        refine lv_iadd hx hb dX4_areSame_25 ?_
        refine kr_topi (y := nI ((b * 4) + 3)) (nI_add (b * 4) 3) ?_
        refine kr_laldN hx hb hK hP 39 2 (by decide) (E_words _ _ _ _) rfl (j := ((b * 4) + 3)) (by omega) hnw dX4_areSame_26 ?_
        refine W.lcmp hx hb dX4_areSame_27 ?_
        refine lv_if_eq (tgt := 33) hx hb dX4_areSame_28 (by decide) (fun c_8 => ?_) (fun c_8 => ?_)
        · replace c_8 : lv 39 ((a * 4) + 3) = lv 39 ((b * 4) + 3) := (lg_cmp_eq _ _).mp c_8
          refine lv_iinc (v := 4) (lv' := [(3, .int 4), (0, .ref (ad 38)), (1, .int (nI a)), (2, .int (nI b))]) hx hb dX4_areSame_33 hl (k := 0) rfl (by decide) (by decide) rfl (fun ls hl => ?_)
          refine lv_goto (tgt := 2) hx hb dX4_areSame_36 (by decide) ?_
          refine lv_iload_n hx hb dX4_areSame_2 rfl (lv_at hl 0 rfl) ?_
          refine lv_iconst (v := 4) hx hb dX4_areSame_3 (by decide) ?_
          refine lv_icmp_ge (tgt := 39) hx hb dX4_areSame_4 (by decide) (fun c_9 => ?_) (fun c_9 => absurd (by decide) c_9)
          refine lv_iconst (v := 1) hx hb dX4_areSame_39 (by decide) ?_
          exact kr_zret hx hb hr hlocks hK hP hD hS (by decide) (by unfold r_sSame; rw [if_pos c_2, if_pos c_4, if_pos c_6, if_pos c_8]) rfl dX4_areSame_40
        · replace c_8 : ¬ lv 39 ((a * 4) + 3) = lv 39 ((b * 4) + 3) := (fun h => c_8 ((lg_cmp_eq _ _).mpr h))
          refine lv_iconst (v := 0) hx hb dX4_areSame_31 (by decide) ?_
          exact kr_zret hx hb hr hlocks hK hP hD hS (by decide) (by unfold r_sSame; rw [if_pos c_2, if_pos c_4, if_pos c_6, if_neg c_8]) rfl dX4_areSame_32
      · replace c_6 : ¬ lv 39 ((a * 4) + 2) = lv 39 ((b * 4) + 2) := (fun h => c_6 ((lg_cmp_eq _ _).mpr h))
        refine lv_iconst (v := 0) hx hb dX4_areSame_31 (by decide) ?_
        exact kr_zret hx hb hr hlocks hK hP hD hS (by decide) (by unfold r_sSame; rw [if_pos c_2, if_pos c_4, if_neg c_6]) rfl dX4_areSame_32
    · replace c_4 : ¬ lv 39 ((a * 4) + 1) = lv 39 ((b * 4) + 1) := (fun h => c_4 ((lg_cmp_eq _ _).mpr h))
      refine lv_iconst (v := 0) hx hb dX4_areSame_31 (by decide) ?_
      exact kr_zret hx hb hr hlocks hK hP hD hS (by decide) (by unfold r_sSame; rw [if_pos c_2, if_neg c_4]) rfl dX4_areSame_32
  · replace c_2 : ¬ lv 39 ((a * 4) + 0) = lv 39 ((b * 4) + 0) := (fun h => c_2 ((lg_cmp_eq _ _).mpr h))
    refine lv_iconst (v := 0) hx hb dX4_areSame_31 (by decide) ?_
    exact kr_zret hx hb hr hlocks hK hP hD hS (by decide) (by unfold r_sSame; rw [if_neg c_2]) rfl dX4_areSame_32
