def m_wBegin (iv : Nat → Nat → Int32) (mi t : Nat) : Nat → Nat → Int32 := (up2 (up2 (up2 (up2 (up2 (up2 (up2 iv (20 + 4 * mi + t) 1 0) (20 + 4 * mi + t) 0 (if (up2 iv (20 + 4 * mi + t) 1 0) (2 + t) 2 ≤ 0 then (4 : Int32) else 0)) (20 + 4 * mi + t) 2 0) (20 + 4 * mi + t) 3 0) (20 + 4 * mi + t) 4 0) (20 + 4 * mi + t) 5 0) (20 + 4 * mi + t) 7 1)
set_option maxHeartbeats 4000000 in
set_option maxRecDepth 100000 in
theorem c_wBegin (l : Launch) (D : va_G) (gc : Nat → ClassId) (ad ln : Nat → Nat) (iv : Nat → Nat → Int32) (lv : Nat → Nat → Int64) (mi t : Nat) (hmi : mi < 2) (ht : t < 4) : kMv l yX5_begin wX5_begin ({ frames := 0, cells := 0, slots := 0, locals := 0 }) D vwCl (kT gc) 42 (kE gc) [.ref (ad (20 + 4 * mi + t))] (ad, ln, iv, lv) (ad, ln, m_wBegin iv mi t, lv) := by
  refine kv_start (cc := cX5_begin) (maxL := 1) (by decide) rfl (Nat.le_of_ble_eq_true rfl) ?_
  intro p9 e9 s m9 below meth c9 A ls hx hb hr hts hown hlocks hml hA hK hP hD hS hl
  have hl : lv_has ls 1 [(0, .ref (ad (20 + 4 * mi + t)))] := hl
  have hown : s.vm.findClass "MonitorWays$Worker" = some m9.cls := hown
  have hin_X5 : ∀ w ∈ u_ws "MonitorWays$Worker" TX5 8, w ∈ wX5_begin := fun w h => tcons (inX5 w h)
  have hin_X2 : ∀ w ∈ u_ws "MonitorWays$Program" TX2 3, w ∈ wX5_begin := fun w h => tcons (inX2 w h)
  have lk_f15 := hts _ (tcons tw_59)
  have lk_f9 := hts _ (tcons tw_68)
  have lk_f19 := hts _ (tcons tw_32)
  have lk_f24 := hts _ (tcons tw_57)
  have lk_f27 := hts _ (tcons tw_60)
  have lk_f30 := hts _ (tcons tw_62)
  have lk_f34 := hts _ (tcons tw_64)
  have lk_f37 := hts _ (tcons tw_66)
  have lk_f40 := hts _ (tcons tw_69)
  refine lv_aload_n hx hb dX5_begin_0 rfl (lv_at hl 0 rfl) ?_
  refine lv_iconst (v := 0) hx hb dX5_begin_1 (by decide) ?_
  refine kr_put (C := "MonitorWays$Worker") (T := TX5) (N := 8) hx hb hts hin_X5 tyX5 ok_tyX5 ok_nX5 hown hK hP hD hS (20 + 4 * mi + t) (by omega) (fun _ => E_wk (mi := mi) (t := t) hmi ht _ _ _ _) rfl 1 (by decide) lk_f15 (fun _ h9 => h9) rfl rfl rfl rfl (fun _ => Nat.le_of_ble_eq_true rfl) (fun _ => rfl) dX5_begin_2 (fun H locs hP hD hS => ?_)
  refine lv_aload_n hx hb dX5_begin_5 rfl (lv_at hl 0 rfl) ?_
  refine lv_aload_n hx hb dX5_begin_6 rfl (lv_at hl 0 rfl) ?_
  refine kr_get (C := "MonitorWays$Worker") (T := TX5) (N := 8) hx hb hts hin_X5 hown hK hP (20 + 4 * mi + t) (by omega) (E_wk (mi := mi) (t := t) hmi ht _ _ _ _) rfl 6 (by decide) lk_f9 (fun _ h9 => h9) rfl dX5_begin_7 ?_
  refine kr_get (C := "MonitorWays$Program") (T := TX2) (N := 3) hx hb hts hin_X2 hown hK hP (2 + t) (by omega) (E_prog ht _ _ _ _) rfl 2 (by decide) lk_f19 (fun _ h9 => h9) rfl dX5_begin_10 ?_
  refine kr_tern (M := 21) (cnd := (up2 iv (20 + 4 * mi + t) 1 0) (2 + t) 2 ≤ 0) (a := 4) (b := 0) (rest := [.ref (ad (20 + 4 * mi + t))]) (fun ja jb => ?_) ?_
  · refine lv_if_le (tgt := 20) hx hb dX5_begin_13 (by decide) (fun c_1 => ?_) (fun c_1 => ?_)
    · refine lv_iconst (v := 4) hx hb dX5_begin_20 (by decide) ?_
      exact ja c_1
    · refine lv_iconst (v := 0) hx hb dX5_begin_16 (by decide) ?_
      refine lv_goto (tgt := 21) hx hb dX5_begin_17 (by decide) ?_
      exact jb c_1
  refine kr_put (C := "MonitorWays$Worker") (T := TX5) (N := 8) hx hb hts hin_X5 tyX5 ok_tyX5 ok_nX5 hown hK hP hD hS (20 + 4 * mi + t) (by omega) (fun _ => E_wk (mi := mi) (t := t) hmi ht _ _ _ _) rfl 0 (by decide) lk_f24 (fun _ h9 => h9) rfl rfl rfl rfl (fun _ => Nat.le_of_ble_eq_true rfl) (fun _ => rfl) dX5_begin_21 (fun H locs hP hD hS => ?_)
  refine lv_aload_n hx hb dX5_begin_24 rfl (lv_at hl 0 rfl) ?_
  refine lv_iconst (v := 0) hx hb dX5_begin_25 (by decide) ?_
  refine kr_put (C := "MonitorWays$Worker") (T := TX5) (N := 8) hx hb hts hin_X5 tyX5 ok_tyX5 ok_nX5 hown hK hP hD hS (20 + 4 * mi + t) (by omega) (fun _ => E_wk (mi := mi) (t := t) hmi ht _ _ _ _) rfl 2 (by decide) lk_f27 (fun _ h9 => h9) rfl rfl rfl rfl (fun _ => Nat.le_of_ble_eq_true rfl) (fun _ => rfl) dX5_begin_26 (fun H locs hP hD hS => ?_)
  refine lv_aload_n hx hb dX5_begin_29 rfl (lv_at hl 0 rfl) ?_
  refine lv_iconst (v := 0) hx hb dX5_begin_30 (by decide) ?_
  refine kr_put (C := "MonitorWays$Worker") (T := TX5) (N := 8) hx hb hts hin_X5 tyX5 ok_tyX5 ok_nX5 hown hK hP hD hS (20 + 4 * mi + t) (by omega) (fun _ => E_wk (mi := mi) (t := t) hmi ht _ _ _ _) rfl 3 (by decide) lk_f30 (fun _ h9 => h9) rfl rfl (by decide) (by decide) (fun _ => Nat.le_of_ble_eq_true rfl) (fun _ => rfl) dX5_begin_31 (fun H locs hP hD hS => ?_)
  refine lv_aload_n hx hb dX5_begin_34 rfl (lv_at hl 0 rfl) ?_
  refine lv_iconst (v := 0) hx hb dX5_begin_35 (by decide) ?_
  refine kr_put (C := "MonitorWays$Worker") (T := TX5) (N := 8) hx hb hts hin_X5 tyX5 ok_tyX5 ok_nX5 hown hK hP hD hS (20 + 4 * mi + t) (by omega) (fun _ => E_wk (mi := mi) (t := t) hmi ht _ _ _ _) rfl 4 (by decide) lk_f34 (fun _ h9 => h9) rfl rfl (by decide) (by decide) (fun _ => Nat.le_of_ble_eq_true rfl) (fun _ => rfl) dX5_begin_36 (fun H locs hP hD hS => ?_)
  refine lv_aload_n hx hb dX5_begin_39 rfl (lv_at hl 0 rfl) ?_
  refine lv_iconst (v := 0) hx hb dX5_begin_40 (by decide) ?_
  refine kr_put (C := "MonitorWays$Worker") (T := TX5) (N := 8) hx hb hts hin_X5 tyX5 ok_tyX5 ok_nX5 hown hK hP hD hS (20 + 4 * mi + t) (by omega) (fun _ => E_wk (mi := mi) (t := t) hmi ht _ _ _ _) rfl 5 (by decide) lk_f37 (fun _ h9 => h9) rfl rfl (by decide) (by decide) (fun _ => Nat.le_of_ble_eq_true rfl) (fun _ => rfl) dX5_begin_41 (fun H locs hP hD hS => ?_)
  refine lv_aload_n hx hb dX5_begin_44 rfl (lv_at hl 0 rfl) ?_
  refine lv_iconst (v := 1) hx hb dX5_begin_45 (by decide) ?_
  refine kr_put (C := "MonitorWays$Worker") (T := TX5) (N := 8) hx hb hts hin_X5 tyX5 ok_tyX5 ok_nX5 hown hK hP hD hS (20 + 4 * mi + t) (by omega) (fun _ => E_wk (mi := mi) (t := t) hmi ht _ _ _ _) rfl 7 (by decide) lk_f40 (fun _ h9 => h9) rfl rfl rfl rfl (fun _ => Nat.le_of_ble_eq_true rfl) (fun _ => rfl) dX5_begin_46 (fun H locs hP hD hS => ?_)
  exact kr_vret hx hb hr hlocks hK hP hD hS rfl dX5_begin_49
def m_wRunOn (iv : Nat → Nat → Int32) (mi t : Nat) : Nat → Nat → Int32 := (up2 (up2 iv (20 + 4 * mi + t) 1 ((iv (20 + 4 * mi + t) 1) + 1)) (20 + 4 * mi + t) 0 (if (up2 iv (20 + 4 * mi + t) 1 ((iv (20 + 4 * mi + t) 1) + 1)) (2 + t) 2 ≤ (up2 iv (20 + 4 * mi + t) 1 ((iv (20 + 4 * mi + t) 1) + 1)) (20 + 4 * mi + t) 1 then (4 : Int32) else 0))
set_option maxHeartbeats 4000000 in
set_option maxRecDepth 100000 in
theorem c_wRunOn (l : Launch) (D : va_G) (gc : Nat → ClassId) (ad ln : Nat → Nat) (iv : Nat → Nat → Int32) (lv : Nat → Nat → Int64) (mi t : Nat) (hmi : mi < 2) (ht : t < 4) : kMv l yX5_runOn wX5_runOn ({ frames := 0, cells := 0, slots := 0, locals := 0 }) D vwCl (kT gc) 42 (kE gc) [.ref (ad (20 + 4 * mi + t))] (ad, ln, iv, lv) (ad, ln, m_wRunOn iv mi t, lv) := by
  refine kv_start (cc := cX5_runOn) (maxL := 1) (by decide) rfl (Nat.le_of_ble_eq_true rfl) ?_
  intro p9 e9 s m9 below meth c9 A ls hx hb hr hts hown hlocks hml hA hK hP hD hS hl
  have hl : lv_has ls 1 [(0, .ref (ad (20 + 4 * mi + t)))] := hl
  have hown : s.vm.findClass "MonitorWays$Worker" = some m9.cls := hown
  have hin_X5 : ∀ w ∈ u_ws "MonitorWays$Worker" TX5 8, w ∈ wX5_runOn := fun w h => tcons (inX5 w h)
  have hin_X2 : ∀ w ∈ u_ws "MonitorWays$Program" TX2 3, w ∈ wX5_runOn := fun w h => tcons (inX2 w h)
  have lk_f15 := hts _ (tcons tw_59)
  have lk_f9 := hts _ (tcons tw_68)
  have lk_f19 := hts _ (tcons tw_32)
  have lk_f24 := hts _ (tcons tw_57)
  refine lv_aload_n hx hb dX5_runOn_0 rfl (lv_at hl 0 rfl) ?_
  refine lv_dup hx hb dX5_runOn_1 rfl ?_
  refine kr_get (C := "MonitorWays$Worker") (T := TX5) (N := 8) hx hb hts hin_X5 hown hK hP (20 + 4 * mi + t) (by omega) (E_wk (mi := mi) (t := t) hmi ht _ _ _ _) rfl 1 (by decide) lk_f15 (fun _ h9 => h9) rfl dX5_runOn_2 ?_
  refine lv_iconst (v := 1) hx hb dX5_runOn_5 (by decide) ?_
  refine lv_iadd hx hb dX5_runOn_6 ?_
  refine kr_put (C := "MonitorWays$Worker") (T := TX5) (N := 8) hx hb hts hin_X5 tyX5 ok_tyX5 ok_nX5 hown hK hP hD hS (20 + 4 * mi + t) (by omega) (fun _ => E_wk (mi := mi) (t := t) hmi ht _ _ _ _) rfl 1 (by decide) lk_f15 (fun _ h9 => h9) rfl rfl rfl rfl (fun _ => Nat.le_of_ble_eq_true rfl) (fun _ => rfl) dX5_runOn_7 (fun H locs hP hD hS => ?_)
  refine lv_aload_n hx hb dX5_runOn_10 rfl (lv_at hl 0 rfl) ?_
  refine lv_aload_n hx hb dX5_runOn_11 rfl (lv_at hl 0 rfl) ?_
  refine kr_get (C := "MonitorWays$Worker") (T := TX5) (N := 8) hx hb hts hin_X5 hown hK hP (20 + 4 * mi + t) (by omega) (E_wk (mi := mi) (t := t) hmi ht _ _ _ _) rfl 1 (by decide) lk_f15 (fun _ h9 => h9) rfl dX5_runOn_12 ?_
  refine lv_aload_n hx hb dX5_runOn_15 rfl (lv_at hl 0 rfl) ?_
  refine kr_get (C := "MonitorWays$Worker") (T := TX5) (N := 8) hx hb hts hin_X5 hown hK hP (20 + 4 * mi + t) (by omega) (E_wk (mi := mi) (t := t) hmi ht _ _ _ _) rfl 6 (by decide) lk_f9 (fun _ h9 => h9) rfl dX5_runOn_16 ?_
  refine kr_get (C := "MonitorWays$Program") (T := TX2) (N := 3) hx hb hts hin_X2 hown hK hP (2 + t) (by omega) (E_prog ht _ _ _ _) rfl 2 (by decide) lk_f19 (fun _ h9 => h9) rfl dX5_runOn_19 ?_
  refine kr_tern (M := 30) (cnd := (up2 iv (20 + 4 * mi + t) 1 ((iv (20 + 4 * mi + t) 1) + 1)) (2 + t) 2 ≤ (up2 iv (20 + 4 * mi + t) 1 ((iv (20 + 4 * mi + t) 1) + 1)) (20 + 4 * mi + t) 1) (a := 4) (b := 0) (rest := [.ref (ad (20 + 4 * mi + t))]) (fun ja jb => ?_) ?_
  · refine lv_icmp_ge (tgt := 29) hx hb dX5_runOn_22 (by decide) (fun c_1 => ?_) (fun c_1 => ?_)
    · refine lv_iconst (v := 4) hx hb dX5_runOn_29 (by decide) ?_
      exact ja c_1
    · refine lv_iconst (v := 0) hx hb dX5_runOn_25 (by decide) ?_
      refine lv_goto (tgt := 30) hx hb dX5_runOn_26 (by decide) ?_
      exact jb c_1
  refine kr_put (C := "MonitorWays$Worker") (T := TX5) (N := 8) hx hb hts hin_X5 tyX5 ok_tyX5 ok_nX5 hown hK hP hD hS (20 + 4 * mi + t) (by omega) (fun _ => E_wk (mi := mi) (t := t) hmi ht _ _ _ _) rfl 0 (by decide) lk_f24 (fun _ h9 => h9) rfl rfl rfl rfl (fun _ => Nat.le_of_ble_eq_true rfl) (fun _ => rfl) dX5_runOn_30 (fun H locs hP hD hS => ?_)
  exact kr_vret hx hb hr hlocks hK hP hD hS rfl dX5_runOn_33
def r_wAction (iv : Nat → Nat → Int32) (mi t : Nat) : Int32 := iv (6 + t) (iv (20 + 4 * mi + t) 1).toNatClampNeg
set_option maxHeartbeats 4000000 in
set_option maxRecDepth 100000 in
theorem c_wAction (l : Launch) (D : va_G) (gc : Nat → ClassId) (ad ln : Nat → Nat) (iv : Nat → Nat → Int32) (lv : Nat → Nat → Int64) (mi t : Nat) (hmi : mi < 2) (ht : t < 4) (hpl : vp_in (iv (20 + 4 * mi + t) 1) 6) : kMi l yX5_action wX5_action ({ frames := 0, cells := 0, slots := 0, locals := 0 }) D vwCl (kT gc) 42 (kE gc) [.ref (ad (20 + 4 * mi + t))] (ad, ln, iv, lv) (ad, ln, iv, lv) (r_wAction iv mi t) := by
  refine ki_start (cc := cX5_action) (maxL := 1) (ret := (some .int)) (by decide) rfl (Nat.le_of_ble_eq_true rfl) ?_
  intro p9 e9 s m9 below meth c9 A ls hx hb hr hts hown hlocks hml hA hK hP hD hS hl
  have hl : lv_has ls 1 [(0, .ref (ad (20 + 4 * mi + t)))] := hl
  have hown : s.vm.findClass "MonitorWays$Worker" = some m9.cls := hown
  have hin_X5 : ∀ w ∈ u_ws "MonitorWays$Worker" TX5 8, w ∈ wX5_action := fun w h => tcons (inX5 w h)
  have hin_X2 : ∀ w ∈ u_ws "MonitorWays$Program" TX2 3, w ∈ wX5_action := fun w h => tcons (inX2 w h)
  have lk_f9 := hts _ (tcons tw_68)
  have lk_f43 := hts _ (tcons tw_28)
  have lk_f15 := hts _ (tcons tw_59)
  refine lv_aload_n hx hb dX5_action_0 rfl (lv_at hl 0 rfl) ?_
  refine kr_get (C := "MonitorWays$Worker") (T := TX5) (N := 8) hx hb hts hin_X5 hown hK hP (20 + 4 * mi + t) (by omega) (E_wk (mi := mi) (t := t) hmi ht _ _ _ _) rfl 6 (by decide) lk_f9 (fun _ h9 => h9) rfl dX5_action_1 ?_
  refine kr_get (C := "MonitorWays$Program") (T := TX2) (N := 3) hx hb hts hin_X2 hown hK hP (2 + t) (by omega) (E_prog ht _ _ _ _) rfl 0 (by decide) lk_f43 (fun _ h9 => h9) rfl dX5_action_4 ?_
  refine lv_aload_n hx hb dX5_action_7 rfl (lv_at hl 0 rfl) ?_
  refine kr_get (C := "MonitorWays$Worker") (T := TX5) (N := 8) hx hb hts hin_X5 hown hK hP (20 + 4 * mi + t) (by omega) (E_wk (mi := mi) (t := t) hmi ht _ _ _ _) rfl 1 (by decide) lk_f15 (fun _ h9 => h9) rfl dX5_action_8 ?_
  refine kr_iald hx hb hK hP (6 + t) 0 (by omega) (E_acts ht _ _ _ _) rfl hpl dX5_action_11 ?_
  exact kr_iret hx hb hr hlocks hK hP hD hS rfl rfl dX5_action_12
def r_wOperand (iv : Nat → Nat → Int32) (mi t : Nat) : Int32 := iv (10 + t) (iv (20 + 4 * mi + t) 1).toNatClampNeg
set_option maxHeartbeats 4000000 in
set_option maxRecDepth 100000 in
theorem c_wOperand (l : Launch) (D : va_G) (gc : Nat → ClassId) (ad ln : Nat → Nat) (iv : Nat → Nat → Int32) (lv : Nat → Nat → Int64) (mi t : Nat) (hmi : mi < 2) (ht : t < 4) (hpl : vp_in (iv (20 + 4 * mi + t) 1) 6) : kMi l yX5_operand wX5_operand ({ frames := 0, cells := 0, slots := 0, locals := 0 }) D vwCl (kT gc) 42 (kE gc) [.ref (ad (20 + 4 * mi + t))] (ad, ln, iv, lv) (ad, ln, iv, lv) (r_wOperand iv mi t) := by
  refine ki_start (cc := cX5_operand) (maxL := 1) (ret := (some .int)) (by decide) rfl (Nat.le_of_ble_eq_true rfl) ?_
  intro p9 e9 s m9 below meth c9 A ls hx hb hr hts hown hlocks hml hA hK hP hD hS hl
  have hl : lv_has ls 1 [(0, .ref (ad (20 + 4 * mi + t)))] := hl
  have hown : s.vm.findClass "MonitorWays$Worker" = some m9.cls := hown
  have hin_X5 : ∀ w ∈ u_ws "MonitorWays$Worker" TX5 8, w ∈ wX5_operand := fun w h => tcons (inX5 w h)
  have hin_X2 : ∀ w ∈ u_ws "MonitorWays$Program" TX2 3, w ∈ wX5_operand := fun w h => tcons (inX2 w h)
  have lk_f9 := hts _ (tcons tw_68)
  have lk_f47 := hts _ (tcons tw_30)
  have lk_f15 := hts _ (tcons tw_59)
  refine lv_aload_n hx hb dX5_operand_0 rfl (lv_at hl 0 rfl) ?_
  refine kr_get (C := "MonitorWays$Worker") (T := TX5) (N := 8) hx hb hts hin_X5 hown hK hP (20 + 4 * mi + t) (by omega) (E_wk (mi := mi) (t := t) hmi ht _ _ _ _) rfl 6 (by decide) lk_f9 (fun _ h9 => h9) rfl dX5_operand_1 ?_
  refine kr_get (C := "MonitorWays$Program") (T := TX2) (N := 3) hx hb hts hin_X2 hown hK hP (2 + t) (by omega) (E_prog ht _ _ _ _) rfl 1 (by decide) lk_f47 (fun _ h9 => h9) rfl dX5_operand_4 ?_
  refine lv_aload_n hx hb dX5_operand_7 rfl (lv_at hl 0 rfl) ?_
  refine kr_get (C := "MonitorWays$Worker") (T := TX5) (N := 8) hx hb hts hin_X5 hown hK hP (20 + 4 * mi + t) (by omega) (E_wk (mi := mi) (t := t) hmi ht _ _ _ _) rfl 1 (by decide) lk_f15 (fun _ h9 => h9) rfl dX5_operand_8 ?_
  refine kr_iald hx hb hK hP (10 + t) 0 (by omega) (E_opds ht _ _ _ _) rfl hpl dX5_operand_11 ?_
  exact kr_iret hx hb hr hlocks hK hP hD hS rfl rfl dX5_operand_12
def m_wPut (iv : Nat → Nat → Int32) (mi t : Nat) (x : Int32) : Nat → Nat → Int32 := (up2 iv (20 + 4 * mi + t) 7 (((iv (20 + 4 * mi + t) 7) * 12) + x))
set_option maxHeartbeats 4000000 in
set_option maxRecDepth 100000 in
theorem c_wPut (l : Launch) (D : va_G) (gc : Nat → ClassId) (ad ln : Nat → Nat) (iv : Nat → Nat → Int32) (lv : Nat → Nat → Int64) (mi t : Nat) (hmi : mi < 2) (ht : t < 4) (x : Int32) : kMv l yX5_put wX5_put ({ frames := 0, cells := 0, slots := 0, locals := 0 }) D vwCl (kT gc) 42 (kE gc) [.ref (ad (20 + 4 * mi + t)), .int x] (ad, ln, iv, lv) (ad, ln, m_wPut iv mi t x, lv) := by
  refine kv_start (cc := cX5_put) (maxL := 2) (by decide) rfl (Nat.le_of_ble_eq_true rfl) ?_
  intro p9 e9 s m9 below meth c9 A ls hx hb hr hts hown hlocks hml hA hK hP hD hS hl
  have hl : lv_has ls 2 [(0, .ref (ad (20 + 4 * mi + t))), (1, .int x)] := hl
  have hown : s.vm.findClass "MonitorWays$Worker" = some m9.cls := hown
  have hin_X5 : ∀ w ∈ u_ws "MonitorWays$Worker" TX5 8, w ∈ wX5_put := fun w h => tcons (inX5 w h)
  have lk_f40 := hts _ (tcons tw_69)
  refine lv_aload_n hx hb dX5_put_0 rfl (lv_at hl 0 rfl) ?_
  refine lv_aload_n hx hb dX5_put_1 rfl (lv_at hl 0 rfl) ?_
  refine kr_get (C := "MonitorWays$Worker") (T := TX5) (N := 8) hx hb hts hin_X5 hown hK hP (20 + 4 * mi + t) (by omega) (E_wk (mi := mi) (t := t) hmi ht _ _ _ _) rfl 7 (by decide) lk_f40 (fun _ h9 => h9) rfl dX5_put_2 ?_
  refine lv_bipush (v := 12) hx hb dX5_put_5 (by decide) ?_
  refine lv_imul hx hb dX5_put_7 ?_
  refine lv_iload_n hx hb dX5_put_8 rfl (lv_at hl 1 rfl) ?_
  refine lv_iadd hx hb dX5_put_9 ?_
  refine kr_put (C := "MonitorWays$Worker") (T := TX5) (N := 8) hx hb hts hin_X5 tyX5 ok_tyX5 ok_nX5 hown hK hP hD hS (20 + 4 * mi + t) (by omega) (fun _ => E_wk (mi := mi) (t := t) hmi ht _ _ _ _) rfl 7 (by decide) lk_f40 (fun _ h9 => h9) rfl rfl rfl rfl (fun _ => Nat.le_of_ble_eq_true rfl) (fun _ => rfl) dX5_put_10 (fun H locs hP hD hS => ?_)
  exact kr_vret hx hb hr hlocks hK hP hD hS rfl dX5_put_13
def r_wTakeInt (iv : Nat → Nat → Int32) (mi t : Nat) : Int32 := iv (20 + 4 * mi + t) 3
def m_wTakeInt (iv : Nat → Nat → Int32) (mi t : Nat) : Nat → Nat → Int32 := (up2 iv (20 + 4 * mi + t) 3 0)
set_option maxHeartbeats 4000000 in
set_option maxRecDepth 100000 in
theorem c_wTakeInt (l : Launch) (D : va_G) (gc : Nat → ClassId) (ad ln : Nat → Nat) (iv : Nat → Nat → Int32) (lv : Nat → Nat → Int64) (mi t : Nat) (hmi : mi < 2) (ht : t < 4) (hz : narrow .boolean (.int (iv (20 + 4 * mi + t) 3)) = .int (iv (20 + 4 * mi + t) 3)) : kMi l yX5_takeInterrupt wX5_takeInterrupt ({ frames := 0, cells := 0, slots := 0, locals := 0 }) D vwCl (kT gc) 42 (kE gc) [.ref (ad (20 + 4 * mi + t))] (ad, ln, iv, lv) (ad, ln, m_wTakeInt iv mi t, lv) (r_wTakeInt iv mi t) := by
  refine ki_start (cc := cX5_takeInterrupt) (maxL := 2) (ret := (some .boolean)) (by decide) rfl (Nat.le_of_ble_eq_true rfl) ?_
  intro p9 e9 s m9 below meth c9 A ls hx hb hr hts hown hlocks hml hA hK hP hD hS hl
  have hl : lv_has ls 2 [(0, .ref (ad (20 + 4 * mi + t)))] := hl
  have hown : s.vm.findClass "MonitorWays$Worker" = some m9.cls := hown
  have hin_X5 : ∀ w ∈ u_ws "MonitorWays$Worker" TX5 8, w ∈ wX5_takeInterrupt := fun w h => tcons (inX5 w h)
  have lk_f30 := hts _ (tcons tw_62)
  refine lv_aload_n hx hb dX5_takeInterrupt_0 rfl (lv_at hl 0 rfl) ?_
  refine kr_get (C := "MonitorWays$Worker") (T := TX5) (N := 8) hx hb hts hin_X5 hown hK hP (20 + 4 * mi + t) (by omega) (E_wk (mi := mi) (t := t) hmi ht _ _ _ _) rfl 3 (by decide) lk_f30 (fun _ h9 => h9) rfl dX5_takeInterrupt_1 ?_
  refine lv_istore_n (lv' := [(1, .int (iv (20 + 4 * mi + t) 3)), (0, .ref (ad (20 + 4 * mi + t)))]) hx hb dX5_takeInterrupt_4 rfl hl (by decide) rfl (fun ls hl => ?_)
  refine lv_aload_n hx hb dX5_takeInterrupt_5 rfl (lv_at hl 1 rfl) ?_
  refine lv_iconst (v := 0) hx hb dX5_takeInterrupt_6 (by decide) ?_
  refine kr_put (C := "MonitorWays$Worker") (T := TX5) (N := 8) hx hb hts hin_X5 tyX5 ok_tyX5 ok_nX5 hown hK hP hD hS (20 + 4 * mi + t) (by omega) (fun _ => E_wk (mi := mi) (t := t) hmi ht _ _ _ _) rfl 3 (by decide) lk_f30 (fun _ h9 => h9) rfl rfl (by decide) (by decide) (fun _ => Nat.le_of_ble_eq_true rfl) (fun _ => rfl) dX5_takeInterrupt_7 (fun H locs hP hD hS => ?_)
  refine lv_iload_n hx hb dX5_takeInterrupt_10 rfl (lv_at hl 0 rfl) ?_
  exact kr_zret hx hb hr hlocks hK hP hD hS hz rfl rfl dX5_takeInterrupt_11
def r_wState (iv : Nat → Nat → Int32) (mi t : Nat) : Int32 := (((iv (20 + 4 * mi + t) 0) + (if iv (20 + 4 * mi + t) 3 = 0 then (0 : Int32) else 8)) + (if iv (20 + 4 * mi + t) 4 = 0 then (0 : Int32) else 16))
set_option maxHeartbeats 4000000 in
set_option maxRecDepth 100000 in
theorem c_wState (l : Launch) (D : va_G) (gc : Nat → ClassId) (ad ln : Nat → Nat) (iv : Nat → Nat → Int32) (lv : Nat → Nat → Int64) (mi t : Nat) (hmi : mi < 2) (ht : t < 4) : kMi l yX5_stateNumber wX5_stateNumber ({ frames := 0, cells := 0, slots := 0, locals := 0 }) D vwCl (kT gc) 42 (kE gc) [.ref (ad (20 + 4 * mi + t))] (ad, ln, iv, lv) (ad, ln, iv, lv) (r_wState iv mi t) := by
  refine ki_start (cc := cX5_stateNumber) (maxL := 1) (ret := (some .int)) (by decide) rfl (Nat.le_of_ble_eq_true rfl) ?_
  intro p9 e9 s m9 below meth c9 A ls hx hb hr hts hown hlocks hml hA hK hP hD hS hl
  have hl : lv_has ls 1 [(0, .ref (ad (20 + 4 * mi + t)))] := hl
  have hown : s.vm.findClass "MonitorWays$Worker" = some m9.cls := hown
  have hin_X5 : ∀ w ∈ u_ws "MonitorWays$Worker" TX5 8, w ∈ wX5_stateNumber := fun w h => tcons (inX5 w h)
  have lk_f24 := hts _ (tcons tw_57)
  have lk_f30 := hts _ (tcons tw_62)
  have lk_f34 := hts _ (tcons tw_64)
  refine lv_aload_n hx hb dX5_stateNumber_0 rfl (lv_at hl 0 rfl) ?_
  refine kr_get (C := "MonitorWays$Worker") (T := TX5) (N := 8) hx hb hts hin_X5 hown hK hP (20 + 4 * mi + t) (by omega) (E_wk (mi := mi) (t := t) hmi ht _ _ _ _) rfl 0 (by decide) lk_f24 (fun _ h9 => h9) rfl dX5_stateNumber_1 ?_
  refine lv_aload_n hx hb dX5_stateNumber_4 rfl (lv_at hl 0 rfl) ?_
  refine kr_get (C := "MonitorWays$Worker") (T := TX5) (N := 8) hx hb hts hin_X5 hown hK hP (20 + 4 * mi + t) (by omega) (E_wk (mi := mi) (t := t) hmi ht _ _ _ _) rfl 3 (by decide) lk_f30 (fun _ h9 => h9) rfl dX5_stateNumber_5 ?_
  refine kr_tern (M := 17) (cnd := iv (20 + 4 * mi + t) 3 = 0) (a := 0) (b := 8) (rest := [.int (iv (20 + 4 * mi + t) 0)]) (fun ja jb => ?_) ?_
  · refine lv_if_eq (tgt := 16) hx hb dX5_stateNumber_8 (by decide) (fun c_1 => ?_) (fun c_1 => ?_)
    · refine lv_iconst (v := 0) hx hb dX5_stateNumber_16 (by decide) ?_
      exact ja c_1
    · refine lv_bipush (v := 8) hx hb dX5_stateNumber_11 (by decide) ?_
      refine lv_goto (tgt := 17) hx hb dX5_stateNumber_13 (by decide) ?_
      exact jb c_1
  refine lv_iadd hx hb dX5_stateNumber_17 ?_
  refine lv_aload_n hx hb dX5_stateNumber_18 rfl (lv_at hl 0 rfl) ?_
  refine kr_get (C := "MonitorWays$Worker") (T := TX5) (N := 8) hx hb hts hin_X5 hown hK hP (20 + 4 * mi + t) (by omega) (E_wk (mi := mi) (t := t) hmi ht _ _ _ _) rfl 4 (by decide) lk_f34 (fun _ h9 => h9) rfl dX5_stateNumber_19 ?_
  refine kr_tern (M := 31) (cnd := iv (20 + 4 * mi + t) 4 = 0) (a := 0) (b := 16) (rest := [.int ((iv (20 + 4 * mi + t) 0) + (if iv (20 + 4 * mi + t) 3 = 0 then (0 : Int32) else 8))]) (fun ja jb => ?_) ?_
  · refine lv_if_eq (tgt := 30) hx hb dX5_stateNumber_22 (by decide) (fun c_2 => ?_) (fun c_2 => ?_)
    · refine lv_iconst (v := 0) hx hb dX5_stateNumber_30 (by decide) ?_
      exact ja c_2
    · refine lv_bipush (v := 16) hx hb dX5_stateNumber_25 (by decide) ?_
      refine lv_goto (tgt := 31) hx hb dX5_stateNumber_27 (by decide) ?_
      exact jb c_2
  refine lv_iadd hx hb dX5_stateNumber_31 ?_
  exact kr_iret hx hb hr hlocks hK hP hD hS rfl rfl dX5_stateNumber_32
def r_wLetters (iv : Nat → Nat → Int32) (mi t : Nat) : Int32 := if iv (20 + 4 * mi + t) 7 < 12 then 0 else if ((iv (20 + 4 * mi + t) 7) / 12) < 12 then 1 else if (((iv (20 + 4 * mi + t) 7) / 12) / 12) < 12 then 2 else if ((((iv (20 + 4 * mi + t) 7) / 12) / 12) / 12) < 12 then 3 else if (((((iv (20 + 4 * mi + t) 7) / 12) / 12) / 12) / 12) < 12 then 4 else if ((((((iv (20 + 4 * mi + t) 7) / 12) / 12) / 12) / 12) / 12) < 12 then 5 else if (((((((iv (20 + 4 * mi + t) 7) / 12) / 12) / 12) / 12) / 12) / 12) < 12 then 6 else 6
set_option maxHeartbeats 4000000 in
set_option maxRecDepth 100000 in
theorem c_wLetters (l : Launch) (D : va_G) (gc : Nat → ClassId) (ad ln : Nat → Nat) (iv : Nat → Nat → Int32) (lv : Nat → Nat → Int64) (mi t : Nat) (hmi : mi < 2) (ht : t < 4) : kMi l yX5_letterCount wX5_letterCount ({ frames := 0, cells := 0, slots := 0, locals := 0 }) D vwCl (kT gc) 42 (kE gc) [.ref (ad (20 + 4 * mi + t))] (ad, ln, iv, lv) (ad, ln, iv, lv) (r_wLetters iv mi t) := by
  refine ki_start (cc := cX5_letterCount) (maxL := 3) (ret := (some .int)) (by decide) rfl (Nat.le_of_ble_eq_true rfl) ?_
  intro p9 e9 s m9 below meth c9 A ls hx hb hr hts hown hlocks hml hA hK hP hD hS hl
  have hl : lv_has ls 3 [(0, .ref (ad (20 + 4 * mi + t)))] := hl
  have hown : s.vm.findClass "MonitorWays$Worker" = some m9.cls := hown
  have hin_X5 : ∀ w ∈ u_ws "MonitorWays$Worker" TX5 8, w ∈ wX5_letterCount := fun w h => tcons (inX5 w h)
  have lk_f40 := hts _ (tcons tw_69)
  refine lv_iconst (v := 0) hx hb dX5_letterCount_0 (by decide) ?_
  refine lv_istore_n (lv' := [(1, .int 0), (0, .ref (ad (20 + 4 * mi + t)))]) hx hb dX5_letterCount_1 rfl hl (by decide) rfl (fun ls hl => ?_)
  refine lv_aload_n hx hb dX5_letterCount_2 rfl (lv_at hl 1 rfl) ?_
  refine kr_get (C := "MonitorWays$Worker") (T := TX5) (N := 8) hx hb hts hin_X5 hown hK hP (20 + 4 * mi + t) (by omega) (E_wk (mi := mi) (t := t) hmi ht _ _ _ _) rfl 7 (by decide) lk_f40 (fun _ h9 => h9) rfl dX5_letterCount_3 ?_
  refine lv_istore_n (lv' := [(2, .int (iv (20 + 4 * mi + t) 7)), (1, .int 0), (0, .ref (ad (20 + 4 * mi + t)))]) hx hb dX5_letterCount_6 rfl hl (by decide) rfl (fun ls hl => ?_)
  refine lv_iload_n hx hb dX5_letterCount_7 rfl (lv_at hl 0 rfl) ?_
  refine lv_bipush (v := 12) hx hb dX5_letterCount_8 (by decide) ?_
  refine lv_icmp_lt (tgt := 30) hx hb dX5_letterCount_10 (by decide) (fun c_1 => ?_) (fun c_1 => ?_)
  · refine lv_iload_n hx hb dX5_letterCount_30 rfl (lv_at hl 1 rfl) ?_
    exact kr_iret hx hb hr hlocks hK hP hD hS (by unfold r_wLetters; rw [if_pos c_1]) rfl dX5_letterCount_31
  · refine lv_iload_n hx hb dX5_letterCount_13 rfl (lv_at hl 1 rfl) ?_
    refine lv_bipush (v := 6) hx hb dX5_letterCount_14 (by decide) ?_
    refine lv_icmp_ge (tgt := 30) hx hb dX5_letterCount_16 (by decide) (fun c_2 => absurd c_2 (by decide)) (fun c_2 => ?_)
    refine lv_iinc (v := 1) (lv' := [(1, .int 1), (2, .int (iv (20 + 4 * mi + t) 7)), (0, .ref (ad (20 + 4 * mi + t)))]) hx hb dX5_letterCount_19 hl (k := 1) rfl (by decide) (by decide) rfl (fun ls hl => ?_)
    refine lv_iload_n hx hb dX5_letterCount_22 rfl (lv_at hl 1 rfl) ?_
    refine lv_bipush (v := 12) hx hb dX5_letterCount_23 (by decide) ?_
    refine lv_idiv hx hb dX5_letterCount_25 (by decide) ?_
    refine lv_istore_n (lv' := [(2, .int ((iv (20 + 4 * mi + t) 7) / 12)), (1, .int 1), (0, .ref (ad (20 + 4 * mi + t)))]) hx hb dX5_letterCount_26 rfl hl (by decide) rfl (fun ls hl => ?_)
    refine lv_goto (tgt := 7) hx hb dX5_letterCount_27 (by decide) ?_
    refine lv_iload_n hx hb dX5_letterCount_7 rfl (lv_at hl 0 rfl) ?_
    refine lv_bipush (v := 12) hx hb dX5_letterCount_8 (by decide) ?_
    refine lv_icmp_lt (tgt := 30) hx hb dX5_letterCount_10 (by decide) (fun c_3 => ?_) (fun c_3 => ?_)
    · refine lv_iload_n hx hb dX5_letterCount_30 rfl (lv_at hl 1 rfl) ?_
      exact kr_iret hx hb hr hlocks hK hP hD hS (by unfold r_wLetters; rw [if_neg c_1, if_pos c_3]) rfl dX5_letterCount_31
    · refine lv_iload_n hx hb dX5_letterCount_13 rfl (lv_at hl 1 rfl) ?_
      refine lv_bipush (v := 6) hx hb dX5_letterCount_14 (by decide) ?_
      refine lv_icmp_ge (tgt := 30) hx hb dX5_letterCount_16 (by decide) (fun c_4 => absurd c_4 (by decide)) (fun c_4 => ?_)
      refine lv_iinc (v := 2) (lv' := [(1, .int 2), (2, .int ((iv (20 + 4 * mi + t) 7) / 12)), (0, .ref (ad (20 + 4 * mi + t)))]) hx hb dX5_letterCount_19 hl (k := 1) rfl (by decide) (by decide) rfl (fun ls hl => ?_)
      refine lv_iload_n hx hb dX5_letterCount_22 rfl (lv_at hl 1 rfl) ?_
      refine lv_bipush (v := 12) hx hb dX5_letterCount_23 (by decide) ?_
      refine lv_idiv hx hb dX5_letterCount_25 (by decide) ?_
      refine lv_istore_n (lv' := [(2, .int (((iv (20 + 4 * mi + t) 7) / 12) / 12)), (1, .int 2), (0, .ref (ad (20 + 4 * mi + t)))]) hx hb dX5_letterCount_26 rfl hl (by decide) rfl (fun ls hl => ?_)
      refine lv_goto (tgt := 7) hx hb dX5_letterCount_27 (by decide) ?_
      refine lv_iload_n hx hb dX5_letterCount_7 rfl (lv_at hl 0 rfl) ?_
      refine lv_bipush (v := 12) hx hb dX5_letterCount_8 (by decide) ?_
      refine lv_icmp_lt (tgt := 30) hx hb dX5_letterCount_10 (by decide) (fun c_5 => ?_) (fun c_5 => ?_)
      · refine lv_iload_n hx hb dX5_letterCount_30 rfl (lv_at hl 1 rfl) ?_
        exact kr_iret hx hb hr hlocks hK hP hD hS (by unfold r_wLetters; rw [if_neg c_1, if_neg c_3, if_pos c_5]) rfl dX5_letterCount_31
      · refine lv_iload_n hx hb dX5_letterCount_13 rfl (lv_at hl 1 rfl) ?_
        refine lv_bipush (v := 6) hx hb dX5_letterCount_14 (by decide) ?_
        refine lv_icmp_ge (tgt := 30) hx hb dX5_letterCount_16 (by decide) (fun c_6 => absurd c_6 (by decide)) (fun c_6 => ?_)
        refine lv_iinc (v := 3) (lv' := [(1, .int 3), (2, .int (((iv (20 + 4 * mi + t) 7) / 12) / 12)), (0, .ref (ad (20 + 4 * mi + t)))]) hx hb dX5_letterCount_19 hl (k := 1) rfl (by decide) (by decide) rfl (fun ls hl => ?_)
        refine lv_iload_n hx hb dX5_letterCount_22 rfl (lv_at hl 1 rfl) ?_
        refine lv_bipush (v := 12) hx hb dX5_letterCount_23 (by decide) ?_
        refine lv_idiv hx hb dX5_letterCount_25 (by decide) ?_
        refine lv_istore_n (lv' := [(2, .int ((((iv (20 + 4 * mi + t) 7) / 12) / 12) / 12)), (1, .int 3), (0, .ref (ad (20 + 4 * mi + t)))]) hx hb dX5_letterCount_26 rfl hl (by decide) rfl (fun ls hl => ?_)
        refine lv_goto (tgt := 7) hx hb dX5_letterCount_27 (by decide) ?_
        refine lv_iload_n hx hb dX5_letterCount_7 rfl (lv_at hl 0 rfl) ?_
        refine lv_bipush (v := 12) hx hb dX5_letterCount_8 (by decide) ?_
        refine lv_icmp_lt (tgt := 30) hx hb dX5_letterCount_10 (by decide) (fun c_7 => ?_) (fun c_7 => ?_)
        · refine lv_iload_n hx hb dX5_letterCount_30 rfl (lv_at hl 1 rfl) ?_
          exact kr_iret hx hb hr hlocks hK hP hD hS (by unfold r_wLetters; rw [if_neg c_1, if_neg c_3, if_neg c_5, if_pos c_7]) rfl dX5_letterCount_31
        · refine lv_iload_n hx hb dX5_letterCount_13 rfl (lv_at hl 1 rfl) ?_
          refine lv_bipush (v := 6) hx hb dX5_letterCount_14 (by decide) ?_
          refine lv_icmp_ge (tgt := 30) hx hb dX5_letterCount_16 (by decide) (fun c_8 => absurd c_8 (by decide)) (fun c_8 => ?_)
          refine lv_iinc (v := 4) (lv' := [(1, .int 4), (2, .int ((((iv (20 + 4 * mi + t) 7) / 12) / 12) / 12)), (0, .ref (ad (20 + 4 * mi + t)))]) hx hb dX5_letterCount_19 hl (k := 1) rfl (by decide) (by decide) rfl (fun ls hl => ?_)
          refine lv_iload_n hx hb dX5_letterCount_22 rfl (lv_at hl 1 rfl) ?_
          refine lv_bipush (v := 12) hx hb dX5_letterCount_23 (by decide) ?_
          refine lv_idiv hx hb dX5_letterCount_25 (by decide) ?_
          refine lv_istore_n (lv' := [(2, .int (((((iv (20 + 4 * mi + t) 7) / 12) / 12) / 12) / 12)), (1, .int 4), (0, .ref (ad (20 + 4 * mi + t)))]) hx hb dX5_letterCount_26 rfl hl (by decide) rfl (fun ls hl => ?_)
          refine lv_goto (tgt := 7) hx hb dX5_letterCount_27 (by decide) ?_
          refine lv_iload_n hx hb dX5_letterCount_7 rfl (lv_at hl 0 rfl) ?_
          refine lv_bipush (v := 12) hx hb dX5_letterCount_8 (by decide) ?_
          refine lv_icmp_lt (tgt := 30) hx hb dX5_letterCount_10 (by decide) (fun c_9 => ?_) (fun c_9 => ?_)
          · refine lv_iload_n hx hb dX5_letterCount_30 rfl (lv_at hl 1 rfl) ?_
            exact kr_iret hx hb hr hlocks hK hP hD hS (by unfold r_wLetters; rw [if_neg c_1, if_neg c_3, if_neg c_5, if_neg c_7, if_pos c_9]) rfl dX5_letterCount_31
          · refine lv_iload_n hx hb dX5_letterCount_13 rfl (lv_at hl 1 rfl) ?_
            refine lv_bipush (v := 6) hx hb dX5_letterCount_14 (by decide) ?_
            refine lv_icmp_ge (tgt := 30) hx hb dX5_letterCount_16 (by decide) (fun c_10 => absurd c_10 (by decide)) (fun c_10 => ?_)
            refine lv_iinc (v := 5) (lv' := [(1, .int 5), (2, .int (((((iv (20 + 4 * mi + t) 7) / 12) / 12) / 12) / 12)), (0, .ref (ad (20 + 4 * mi + t)))]) hx hb dX5_letterCount_19 hl (k := 1) rfl (by decide) (by decide) rfl (fun ls hl => ?_)
            refine lv_iload_n hx hb dX5_letterCount_22 rfl (lv_at hl 1 rfl) ?_
            refine lv_bipush (v := 12) hx hb dX5_letterCount_23 (by decide) ?_
            refine lv_idiv hx hb dX5_letterCount_25 (by decide) ?_
            refine lv_istore_n (lv' := [(2, .int ((((((iv (20 + 4 * mi + t) 7) / 12) / 12) / 12) / 12) / 12)), (1, .int 5), (0, .ref (ad (20 + 4 * mi + t)))]) hx hb dX5_letterCount_26 rfl hl (by decide) rfl (fun ls hl => ?_)
            refine lv_goto (tgt := 7) hx hb dX5_letterCount_27 (by decide) ?_
            refine lv_iload_n hx hb dX5_letterCount_7 rfl (lv_at hl 0 rfl) ?_
            refine lv_bipush (v := 12) hx hb dX5_letterCount_8 (by decide) ?_
            refine lv_icmp_lt (tgt := 30) hx hb dX5_letterCount_10 (by decide) (fun c_11 => ?_) (fun c_11 => ?_)
            · refine lv_iload_n hx hb dX5_letterCount_30 rfl (lv_at hl 1 rfl) ?_
              exact kr_iret hx hb hr hlocks hK hP hD hS (by unfold r_wLetters; rw [if_neg c_1, if_neg c_3, if_neg c_5, if_neg c_7, if_neg c_9, if_pos c_11]) rfl dX5_letterCount_31
            · refine lv_iload_n hx hb dX5_letterCount_13 rfl (lv_at hl 1 rfl) ?_
              refine lv_bipush (v := 6) hx hb dX5_letterCount_14 (by decide) ?_
              refine lv_icmp_ge (tgt := 30) hx hb dX5_letterCount_16 (by decide) (fun c_12 => absurd c_12 (by decide)) (fun c_12 => ?_)
              refine lv_iinc (v := 6) (lv' := [(1, .int 6), (2, .int ((((((iv (20 + 4 * mi + t) 7) / 12) / 12) / 12) / 12) / 12)), (0, .ref (ad (20 + 4 * mi + t)))]) hx hb dX5_letterCount_19 hl (k := 1) rfl (by decide) (by decide) rfl (fun ls hl => ?_)
              refine lv_iload_n hx hb dX5_letterCount_22 rfl (lv_at hl 1 rfl) ?_
              refine lv_bipush (v := 12) hx hb dX5_letterCount_23 (by decide) ?_
              refine lv_idiv hx hb dX5_letterCount_25 (by decide) ?_
              refine lv_istore_n (lv' := [(2, .int (((((((iv (20 + 4 * mi + t) 7) / 12) / 12) / 12) / 12) / 12) / 12)), (1, .int 6), (0, .ref (ad (20 + 4 * mi + t)))]) hx hb dX5_letterCount_26 rfl hl (by decide) rfl (fun ls hl => ?_)
              refine lv_goto (tgt := 7) hx hb dX5_letterCount_27 (by decide) ?_
              refine lv_iload_n hx hb dX5_letterCount_7 rfl (lv_at hl 0 rfl) ?_
              refine lv_bipush (v := 12) hx hb dX5_letterCount_8 (by decide) ?_
              refine lv_icmp_lt (tgt := 30) hx hb dX5_letterCount_10 (by decide) (fun c_13 => ?_) (fun c_13 => ?_)
              · refine lv_iload_n hx hb dX5_letterCount_30 rfl (lv_at hl 1 rfl) ?_
                exact kr_iret hx hb hr hlocks hK hP hD hS (by unfold r_wLetters; rw [if_neg c_1, if_neg c_3, if_neg c_5, if_neg c_7, if_neg c_9, if_neg c_11, if_pos c_13]) rfl dX5_letterCount_31
              · refine lv_iload_n hx hb dX5_letterCount_13 rfl (lv_at hl 1 rfl) ?_
                refine lv_bipush (v := 6) hx hb dX5_letterCount_14 (by decide) ?_
                refine lv_icmp_ge (tgt := 30) hx hb dX5_letterCount_16 (by decide) (fun c_14 => ?_) (fun c_14 => absurd (by decide) c_14)
                refine lv_iload_n hx hb dX5_letterCount_30 rfl (lv_at hl 1 rfl) ?_
                exact kr_iret hx hb hr hlocks hK hP hD hS (by unfold r_wLetters; rw [if_neg c_1, if_neg c_3, if_neg c_5, if_neg c_7, if_neg c_9, if_neg c_11, if_neg c_13]) rfl dX5_letterCount_31
def r_wOutc (iv : Nat → Nat → Int32) (mi t : Nat) : Int64 := ((((iv (20 + 4 * mi + t) 7).toInt64) * 12) + ((if iv (20 + 4 * mi + t) 0 = 4 then (6 : Int32) else 7).toInt64))
set_option maxHeartbeats 4000000 in
set_option maxRecDepth 100000 in
theorem c_wOutc (l : Launch) (D : va_G) (gc : Nat → ClassId) (ad ln : Nat → Nat) (iv : Nat → Nat → Int32) (lv : Nat → Nat → Int64) (mi t : Nat) (hmi : mi < 2) (ht : t < 4) : kMl l yX5_outcomePart wX5_outcomePart ({ frames := 0, cells := 0, slots := 0, locals := 0 }) D vwCl (kT gc) 42 (kE gc) [.ref (ad (20 + 4 * mi + t))] (ad, ln, iv, lv) (ad, ln, iv, lv) (r_wOutc iv mi t) := by
  refine kl_start (cc := cX5_outcomePart) (maxL := 1) (ret := (some .long)) (by decide) rfl (Nat.le_of_ble_eq_true rfl) ?_
  intro p9 e9 s m9 below meth c9 A ls hx hb hr hts hown hlocks hml hA hK hP hD hS hl
  have hl : lv_has ls 1 [(0, .ref (ad (20 + 4 * mi + t)))] := hl
  have hown : s.vm.findClass "MonitorWays$Worker" = some m9.cls := hown
  have hin_X5 : ∀ w ∈ u_ws "MonitorWays$Worker" TX5 8, w ∈ wX5_outcomePart := fun w h => tcons (inX5 w h)
  have lk_f40 := hts _ (tcons tw_69)
  have lk_c54 := hts _ (tcons tw_518)
  have lk_f24 := hts _ (tcons tw_57)
  refine lv_aload_n hx hb dX5_outcomePart_0 rfl (lv_at hl 0 rfl) ?_
  refine kr_get (C := "MonitorWays$Worker") (T := TX5) (N := 8) hx hb hts hin_X5 hown hK hP (20 + 4 * mi + t) (by omega) (E_wk (mi := mi) (t := t) hmi ht _ _ _ _) rfl 7 (by decide) lk_f40 (fun _ h9 => h9) rfl dX5_outcomePart_1 ?_
  refine lv_i2l hx hb dX5_outcomePart_4 rfl ?_
  refine lv_ldc2 (v := 12) hx hb hown lk_c54 dX5_outcomePart_5 ?_
  refine lv_lmul hx hb dX5_outcomePart_8 ?_
  refine lv_aload_n hx hb dX5_outcomePart_9 rfl (lv_at hl 0 rfl) ?_
  refine kr_get (C := "MonitorWays$Worker") (T := TX5) (N := 8) hx hb hts hin_X5 hown hK hP (20 + 4 * mi + t) (by omega) (E_wk (mi := mi) (t := t) hmi ht _ _ _ _) rfl 0 (by decide) lk_f24 (fun _ h9 => h9) rfl dX5_outcomePart_10 ?_
  refine lv_iconst (v := 4) hx hb dX5_outcomePart_13 (by decide) ?_
  refine kr_tern (M := 24) (cnd := iv (20 + 4 * mi + t) 0 = 4) (a := 6) (b := 7) (rest := [.long (((iv (20 + 4 * mi + t) 7).toInt64) * 12)]) (fun ja jb => ?_) ?_
  · refine lv_icmp_ne (tgt := 22) hx hb dX5_outcomePart_14 (by decide) (fun c_1 => ?_) (fun c_1 => ?_)
    · refine lv_bipush (v := 7) hx hb dX5_outcomePart_22 (by decide) ?_
      exact jb c_1
    · refine lv_bipush (v := 6) hx hb dX5_outcomePart_17 (by decide) ?_
      refine lv_goto (tgt := 24) hx hb dX5_outcomePart_19 (by decide) ?_
      exact ja c_1
  refine lv_i2l hx hb dX5_outcomePart_24 rfl ?_
  refine lv_ladd hx hb dX5_outcomePart_25 ?_
  exact kr_lret hx hb hr hlocks hK hP hD hS rfl rfl dX5_outcomePart_26
def r_wPack (iv : Nat → Nat → Int32) (mi t : Nat) : Int64 := ((((iv (20 + 4 * mi + t) 7).toInt64) <<< ((12 : Int32).toInt64 &&& 63)) ||| (((((iv (20 + 4 * mi + t) 0) ||| ((iv (20 + 4 * mi + t) 1) <<< ((3 : Int32) &&& 31))) ||| ((iv (20 + 4 * mi + t) 2) <<< ((6 : Int32) &&& 31))) ||| ((((if iv (20 + 4 * mi + t) 3 = 0 then (0 : Int32) else 1) ||| (if iv (20 + 4 * mi + t) 4 = 0 then (0 : Int32) else 2)) ||| (if iv (20 + 4 * mi + t) 5 = 0 then (0 : Int32) else 4)) <<< ((9 : Int32) &&& 31))).toInt64))
set_option maxHeartbeats 4000000 in
set_option maxRecDepth 100000 in
theorem c_wPack (l : Launch) (D : va_G) (gc : Nat → ClassId) (ad ln : Nat → Nat) (iv : Nat → Nat → Int32) (lv : Nat → Nat → Int64) (mi t : Nat) (hmi : mi < 2) (ht : t < 4) : kMl l yX5_packed wX5_packed ({ frames := 0, cells := 0, slots := 0, locals := 0 }) D vwCl (kT gc) 42 (kE gc) [.ref (ad (20 + 4 * mi + t))] (ad, ln, iv, lv) (ad, ln, iv, lv) (r_wPack iv mi t) := by
  refine kl_start (cc := cX5_packed) (maxL := 3) (ret := (some .long)) (by decide) rfl (Nat.le_of_ble_eq_true rfl) ?_
  intro p9 e9 s m9 below meth c9 A ls hx hb hr hts hown hlocks hml hA hK hP hD hS hl
  have hl : lv_has ls 3 [(0, .ref (ad (20 + 4 * mi + t)))] := hl
  have hown : s.vm.findClass "MonitorWays$Worker" = some m9.cls := hown
  have hin_X5 : ∀ w ∈ u_ws "MonitorWays$Worker" TX5 8, w ∈ wX5_packed := fun w h => tcons (inX5 w h)
  have lk_f30 := hts _ (tcons tw_62)
  have lk_f34 := hts _ (tcons tw_64)
  have lk_f37 := hts _ (tcons tw_66)
  have lk_f24 := hts _ (tcons tw_57)
  have lk_f15 := hts _ (tcons tw_59)
  have lk_f27 := hts _ (tcons tw_60)
  have lk_f40 := hts _ (tcons tw_69)
  refine lv_aload_n hx hb dX5_packed_0 rfl (lv_at hl 0 rfl) ?_
  refine kr_get (C := "MonitorWays$Worker") (T := TX5) (N := 8) hx hb hts hin_X5 hown hK hP (20 + 4 * mi + t) (by omega) (E_wk (mi := mi) (t := t) hmi ht _ _ _ _) rfl 3 (by decide) lk_f30 (fun _ h9 => h9) rfl dX5_packed_1 ?_
  refine kr_tern (M := 12) (cnd := iv (20 + 4 * mi + t) 3 = 0) (a := 0) (b := 1) (rest := []) (fun ja jb => ?_) ?_
  · refine lv_if_eq (tgt := 11) hx hb dX5_packed_4 (by decide) (fun c_1 => ?_) (fun c_1 => ?_)
    · refine lv_iconst (v := 0) hx hb dX5_packed_11 (by decide) ?_
      exact ja c_1
    · refine lv_iconst (v := 1) hx hb dX5_packed_7 (by decide) ?_
      refine lv_goto (tgt := 12) hx hb dX5_packed_8 (by decide) ?_
      exact jb c_1
  refine lv_aload_n hx hb dX5_packed_12 rfl (lv_at hl 0 rfl) ?_
  refine kr_get (C := "MonitorWays$Worker") (T := TX5) (N := 8) hx hb hts hin_X5 hown hK hP (20 + 4 * mi + t) (by omega) (E_wk (mi := mi) (t := t) hmi ht _ _ _ _) rfl 4 (by decide) lk_f34 (fun _ h9 => h9) rfl dX5_packed_13 ?_
  refine kr_tern (M := 24) (cnd := iv (20 + 4 * mi + t) 4 = 0) (a := 0) (b := 2) (rest := [.int (if iv (20 + 4 * mi + t) 3 = 0 then (0 : Int32) else 1)]) (fun ja jb => ?_) ?_
  · refine lv_if_eq (tgt := 23) hx hb dX5_packed_16 (by decide) (fun c_2 => ?_) (fun c_2 => ?_)
    · refine lv_iconst (v := 0) hx hb dX5_packed_23 (by decide) ?_
      exact ja c_2
    · refine lv_iconst (v := 2) hx hb dX5_packed_19 (by decide) ?_
      refine lv_goto (tgt := 24) hx hb dX5_packed_20 (by decide) ?_
      exact jb c_2
  refine lv_ior hx hb dX5_packed_24 ?_
  refine lv_aload_n hx hb dX5_packed_25 rfl (lv_at hl 0 rfl) ?_
  refine kr_get (C := "MonitorWays$Worker") (T := TX5) (N := 8) hx hb hts hin_X5 hown hK hP (20 + 4 * mi + t) (by omega) (E_wk (mi := mi) (t := t) hmi ht _ _ _ _) rfl 5 (by decide) lk_f37 (fun _ h9 => h9) rfl dX5_packed_26 ?_
  refine kr_tern (M := 37) (cnd := iv (20 + 4 * mi + t) 5 = 0) (a := 0) (b := 4) (rest := [.int ((if iv (20 + 4 * mi + t) 3 = 0 then (0 : Int32) else 1) ||| (if iv (20 + 4 * mi + t) 4 = 0 then (0 : Int32) else 2))]) (fun ja jb => ?_) ?_
  · refine lv_if_eq (tgt := 36) hx hb dX5_packed_29 (by decide) (fun c_3 => ?_) (fun c_3 => ?_)
    · refine lv_iconst (v := 0) hx hb dX5_packed_36 (by decide) ?_
      exact ja c_3
    · refine lv_iconst (v := 4) hx hb dX5_packed_32 (by decide) ?_
      refine lv_goto (tgt := 37) hx hb dX5_packed_33 (by decide) ?_
      exact jb c_3
  refine lv_ior hx hb dX5_packed_37 ?_
  refine lv_istore_n (lv' := [(1, .int (((if iv (20 + 4 * mi + t) 3 = 0 then (0 : Int32) else 1) ||| (if iv (20 + 4 * mi + t) 4 = 0 then (0 : Int32) else 2)) ||| (if iv (20 + 4 * mi + t) 5 = 0 then (0 : Int32) else 4))), (0, .ref (ad (20 + 4 * mi + t)))]) hx hb dX5_packed_38 rfl hl (by decide) rfl (fun ls hl => ?_)
  refine lv_aload_n hx hb dX5_packed_39 rfl (lv_at hl 1 rfl) ?_
  refine kr_get (C := "MonitorWays$Worker") (T := TX5) (N := 8) hx hb hts hin_X5 hown hK hP (20 + 4 * mi + t) (by omega) (E_wk (mi := mi) (t := t) hmi ht _ _ _ _) rfl 0 (by decide) lk_f24 (fun _ h9 => h9) rfl dX5_packed_40 ?_
  refine lv_aload_n hx hb dX5_packed_43 rfl (lv_at hl 1 rfl) ?_
  refine kr_get (C := "MonitorWays$Worker") (T := TX5) (N := 8) hx hb hts hin_X5 hown hK hP (20 + 4 * mi + t) (by omega) (E_wk (mi := mi) (t := t) hmi ht _ _ _ _) rfl 1 (by decide) lk_f15 (fun _ h9 => h9) rfl dX5_packed_44 ?_
  refine lv_iconst (v := 3) hx hb dX5_packed_47 (by decide) ?_
  refine lv_ishl hx hb dX5_packed_48 ?_
  refine lv_ior hx hb dX5_packed_49 ?_
  refine lv_aload_n hx hb dX5_packed_50 rfl (lv_at hl 1 rfl) ?_
  refine kr_get (C := "MonitorWays$Worker") (T := TX5) (N := 8) hx hb hts hin_X5 hown hK hP (20 + 4 * mi + t) (by omega) (E_wk (mi := mi) (t := t) hmi ht _ _ _ _) rfl 2 (by decide) lk_f27 (fun _ h9 => h9) rfl dX5_packed_51 ?_
  refine lv_bipush (v := 6) hx hb dX5_packed_54 (by decide) ?_
  refine lv_ishl hx hb dX5_packed_56 ?_
  refine lv_ior hx hb dX5_packed_57 ?_
  refine lv_iload_n hx hb dX5_packed_58 rfl (lv_at hl 0 rfl) ?_
  refine lv_bipush (v := 9) hx hb dX5_packed_59 (by decide) ?_
  refine lv_ishl hx hb dX5_packed_61 ?_
  refine lv_ior hx hb dX5_packed_62 ?_
  refine lv_istore_n (lv' := [(2, .int ((((iv (20 + 4 * mi + t) 0) ||| ((iv (20 + 4 * mi + t) 1) <<< ((3 : Int32) &&& 31))) ||| ((iv (20 + 4 * mi + t) 2) <<< ((6 : Int32) &&& 31))) ||| ((((if iv (20 + 4 * mi + t) 3 = 0 then (0 : Int32) else 1) ||| (if iv (20 + 4 * mi + t) 4 = 0 then (0 : Int32) else 2)) ||| (if iv (20 + 4 * mi + t) 5 = 0 then (0 : Int32) else 4)) <<< ((9 : Int32) &&& 31)))), (1, .int (((if iv (20 + 4 * mi + t) 3 = 0 then (0 : Int32) else 1) ||| (if iv (20 + 4 * mi + t) 4 = 0 then (0 : Int32) else 2)) ||| (if iv (20 + 4 * mi + t) 5 = 0 then (0 : Int32) else 4))), (0, .ref (ad (20 + 4 * mi + t)))]) hx hb dX5_packed_63 rfl hl (by decide) rfl (fun ls hl => ?_)
  refine lv_aload_n hx hb dX5_packed_64 rfl (lv_at hl 2 rfl) ?_
  refine kr_get (C := "MonitorWays$Worker") (T := TX5) (N := 8) hx hb hts hin_X5 hown hK hP (20 + 4 * mi + t) (by omega) (E_wk (mi := mi) (t := t) hmi ht _ _ _ _) rfl 7 (by decide) lk_f40 (fun _ h9 => h9) rfl dX5_packed_65 ?_
  refine lv_i2l hx hb dX5_packed_68 rfl ?_
  refine lv_bipush (v := 12) hx hb dX5_packed_69 (by decide) ?_
  refine lv_lshl hx hb dX5_packed_71 rfl ?_
  refine lv_iload_n hx hb dX5_packed_72 rfl (lv_at hl 0 rfl) ?_
  refine lv_i2l hx hb dX5_packed_73 rfl ?_
  refine lv_lor hx hb dX5_packed_74 ?_
  exact kr_lret hx hb hr hlocks hK hP hD hS rfl rfl dX5_packed_75
def m_wUnpack (iv : Nat → Nat → Int32) (mi t : Nat) (x : Int64) : Nat → Nat → Int32 := (up2 (up2 (up2 (up2 (up2 (up2 (up2 iv (20 + 4 * mi + t) 0 ((x.toInt32 &&& 4095) &&& 7)) (20 + 4 * mi + t) 1 (((x.toInt32 &&& 4095) >>> ((3 : Int32) &&& 31)) &&& 7)) (20 + 4 * mi + t) 2 (((x.toInt32 &&& 4095) >>> ((6 : Int32) &&& 31)) &&& 7)) (20 + 4 * mi + t) 3 (if (((x.toInt32 &&& 4095) >>> ((9 : Int32) &&& 31)) &&& 1) = 0 then (0 : Int32) else 1)) (20 + 4 * mi + t) 4 (if (((x.toInt32 &&& 4095) >>> ((9 : Int32) &&& 31)) &&& 2) = 0 then (0 : Int32) else 1)) (20 + 4 * mi + t) 5 (if (((x.toInt32 &&& 4095) >>> ((9 : Int32) &&& 31)) &&& 4) = 0 then (0 : Int32) else 1)) (20 + 4 * mi + t) 7 ((((x.toUInt64 >>> ((12 : Int32).toInt64.toUInt64 &&& Int64.toUInt64 63)).toInt64).toInt32) &&& 8388607))
set_option maxHeartbeats 4000000 in
set_option maxRecDepth 100000 in
theorem c_wUnpack (l : Launch) (D : va_G) (gc : Nat → ClassId) (ad ln : Nat → Nat) (iv : Nat → Nat → Int32) (lv : Nat → Nat → Int64) (mi t : Nat) (hmi : mi < 2) (ht : t < 4) (x : Int64) : kMv l yX5_unpack wX5_unpack ({ frames := 0, cells := 0, slots := 0, locals := 0 }) D vwCl (kT gc) 42 (kE gc) [.ref (ad (20 + 4 * mi + t)), .long x] (ad, ln, iv, lv) (ad, ln, m_wUnpack iv mi t x, lv) := by
  refine kv_start (cc := cX5_unpack) (maxL := 5) (by decide) rfl (Nat.le_of_ble_eq_true rfl) ?_
  intro p9 e9 s m9 below meth c9 A ls hx hb hr hts hown hlocks hml hA hK hP hD hS hl
  have hl : lv_has ls 5 [(0, .ref (ad (20 + 4 * mi + t))), (1, .long x)] := hl
  have hown : s.vm.findClass "MonitorWays$Worker" = some m9.cls := hown
  have hin_X5 : ∀ w ∈ u_ws "MonitorWays$Worker" TX5 8, w ∈ wX5_unpack := fun w h => tcons (inX5 w h)
  have lk_f24 := hts _ (tcons tw_57)
  have lk_f15 := hts _ (tcons tw_59)
  have lk_f27 := hts _ (tcons tw_60)
  have lk_f30 := hts _ (tcons tw_62)
  have lk_f34 := hts _ (tcons tw_64)
  have lk_f37 := hts _ (tcons tw_66)
  have lk_c56 := hts _ (tcons tw_492)
  have lk_f40 := hts _ (tcons tw_69)
  refine lv_lload_n hx hb dX5_unpack_0 rfl (lv_at hl 1 rfl) ?_
  refine lv_l2i hx hb dX5_unpack_1 rfl ?_
  refine lv_sipush (v := 4095) hx hb dX5_unpack_2 (by decide) ?_
  refine lv_iand hx hb dX5_unpack_5 ?_
  refine lv_istore_n (lv' := [(3, .int (x.toInt32 &&& 4095)), (0, .ref (ad (20 + 4 * mi + t))), (1, .long x)]) hx hb dX5_unpack_6 rfl hl (by decide) rfl (fun ls hl => ?_)
  refine lv_iload_n hx hb dX5_unpack_7 rfl (lv_at hl 0 rfl) ?_
  refine lv_bipush (v := 9) hx hb dX5_unpack_8 (by decide) ?_
  refine lv_ishr hx hb dX5_unpack_10 ?_
  refine lv_istore (lv' := [(4, .int ((x.toInt32 &&& 4095) >>> ((9 : Int32) &&& 31))), (3, .int (x.toInt32 &&& 4095)), (0, .ref (ad (20 + 4 * mi + t))), (1, .long x)]) hx hb dX5_unpack_11 hl (by decide) rfl (fun ls hl => ?_)
  refine lv_aload_n hx hb dX5_unpack_13 rfl (lv_at hl 2 rfl) ?_
  refine lv_iload_n hx hb dX5_unpack_14 rfl (lv_at hl 1 rfl) ?_
  refine lv_bipush (v := 7) hx hb dX5_unpack_15 (by decide) ?_
  refine lv_iand hx hb dX5_unpack_17 ?_
  refine kr_put (C := "MonitorWays$Worker") (T := TX5) (N := 8) hx hb hts hin_X5 tyX5 ok_tyX5 ok_nX5 hown hK hP hD hS (20 + 4 * mi + t) (by omega) (fun _ => E_wk (mi := mi) (t := t) hmi ht _ _ _ _) rfl 0 (by decide) lk_f24 (fun _ h9 => h9) rfl rfl rfl rfl (fun _ => Nat.le_of_ble_eq_true rfl) (fun _ => rfl) dX5_unpack_18 (fun H locs hP hD hS => ?_)
  refine lv_aload_n hx hb dX5_unpack_21 rfl (lv_at hl 2 rfl) ?_
  refine lv_iload_n hx hb dX5_unpack_22 rfl (lv_at hl 1 rfl) ?_
  refine lv_iconst (v := 3) hx hb dX5_unpack_23 (by decide) ?_
  refine lv_ishr hx hb dX5_unpack_24 ?_
  refine lv_bipush (v := 7) hx hb dX5_unpack_25 (by decide) ?_
  refine lv_iand hx hb dX5_unpack_27 ?_
  refine kr_put (C := "MonitorWays$Worker") (T := TX5) (N := 8) hx hb hts hin_X5 tyX5 ok_tyX5 ok_nX5 hown hK hP hD hS (20 + 4 * mi + t) (by omega) (fun _ => E_wk (mi := mi) (t := t) hmi ht _ _ _ _) rfl 1 (by decide) lk_f15 (fun _ h9 => h9) rfl rfl rfl rfl (fun _ => Nat.le_of_ble_eq_true rfl) (fun _ => rfl) dX5_unpack_28 (fun H locs hP hD hS => ?_)
  refine lv_aload_n hx hb dX5_unpack_31 rfl (lv_at hl 2 rfl) ?_
  refine lv_iload_n hx hb dX5_unpack_32 rfl (lv_at hl 1 rfl) ?_
  refine lv_bipush (v := 6) hx hb dX5_unpack_33 (by decide) ?_
  refine lv_ishr hx hb dX5_unpack_35 ?_
  refine lv_bipush (v := 7) hx hb dX5_unpack_36 (by decide) ?_
  refine lv_iand hx hb dX5_unpack_38 ?_
  refine kr_put (C := "MonitorWays$Worker") (T := TX5) (N := 8) hx hb hts hin_X5 tyX5 ok_tyX5 ok_nX5 hown hK hP hD hS (20 + 4 * mi + t) (by omega) (fun _ => E_wk (mi := mi) (t := t) hmi ht _ _ _ _) rfl 2 (by decide) lk_f27 (fun _ h9 => h9) rfl rfl rfl rfl (fun _ => Nat.le_of_ble_eq_true rfl) (fun _ => rfl) dX5_unpack_39 (fun H locs hP hD hS => ?_)
  refine lv_aload_n hx hb dX5_unpack_42 rfl (lv_at hl 2 rfl) ?_
  refine lv_iload hx hb dX5_unpack_43 (lv_at hl 0 rfl) ?_
  refine lv_iconst (v := 1) hx hb dX5_unpack_45 (by decide) ?_
  refine lv_iand hx hb dX5_unpack_46 ?_
  refine kr_tern (M := 55) (cnd := (((x.toInt32 &&& 4095) >>> ((9 : Int32) &&& 31)) &&& 1) = 0) (a := 0) (b := 1) (rest := [.ref (ad (20 + 4 * mi + t))]) (fun ja jb => ?_) ?_
  · refine lv_if_eq (tgt := 54) hx hb dX5_unpack_47 (by decide) (fun c_1 => ?_) (fun c_1 => ?_)
    · refine lv_iconst (v := 0) hx hb dX5_unpack_54 (by decide) ?_
      exact ja c_1
    · refine lv_iconst (v := 1) hx hb dX5_unpack_50 (by decide) ?_
      refine lv_goto (tgt := 55) hx hb dX5_unpack_51 (by decide) ?_
      exact jb c_1
  refine kr_put (C := "MonitorWays$Worker") (T := TX5) (N := 8) hx hb hts hin_X5 tyX5 ok_tyX5 ok_nX5 hown hK hP hD hS (20 + 4 * mi + t) (by omega) (fun _ => E_wk (mi := mi) (t := t) hmi ht _ _ _ _) rfl 3 (by decide) lk_f30 (fun _ h9 => h9) rfl rfl (nb_ite (by decide) (by decide)) (fb_ite (by decide) (by decide)) (fun _ => Nat.le_of_ble_eq_true rfl) (fun _ => rfl) dX5_unpack_55 (fun H locs hP hD hS => ?_)
  refine lv_aload_n hx hb dX5_unpack_58 rfl (lv_at hl 2 rfl) ?_
  refine lv_iload hx hb dX5_unpack_59 (lv_at hl 0 rfl) ?_
  refine lv_iconst (v := 2) hx hb dX5_unpack_61 (by decide) ?_
  refine lv_iand hx hb dX5_unpack_62 ?_
  refine kr_tern (M := 71) (cnd := (((x.toInt32 &&& 4095) >>> ((9 : Int32) &&& 31)) &&& 2) = 0) (a := 0) (b := 1) (rest := [.ref (ad (20 + 4 * mi + t))]) (fun ja jb => ?_) ?_
  · refine lv_if_eq (tgt := 70) hx hb dX5_unpack_63 (by decide) (fun c_2 => ?_) (fun c_2 => ?_)
    · refine lv_iconst (v := 0) hx hb dX5_unpack_70 (by decide) ?_
      exact ja c_2
    · refine lv_iconst (v := 1) hx hb dX5_unpack_66 (by decide) ?_
      refine lv_goto (tgt := 71) hx hb dX5_unpack_67 (by decide) ?_
      exact jb c_2
  refine kr_put (C := "MonitorWays$Worker") (T := TX5) (N := 8) hx hb hts hin_X5 tyX5 ok_tyX5 ok_nX5 hown hK hP hD hS (20 + 4 * mi + t) (by omega) (fun _ => E_wk (mi := mi) (t := t) hmi ht _ _ _ _) rfl 4 (by decide) lk_f34 (fun _ h9 => h9) rfl rfl (nb_ite (by decide) (by decide)) (fb_ite (by decide) (by decide)) (fun _ => Nat.le_of_ble_eq_true rfl) (fun _ => rfl) dX5_unpack_71 (fun H locs hP hD hS => ?_)
  refine lv_aload_n hx hb dX5_unpack_74 rfl (lv_at hl 2 rfl) ?_
  refine lv_iload hx hb dX5_unpack_75 (lv_at hl 0 rfl) ?_
  refine lv_iconst (v := 4) hx hb dX5_unpack_77 (by decide) ?_
  refine lv_iand hx hb dX5_unpack_78 ?_
  refine kr_tern (M := 87) (cnd := (((x.toInt32 &&& 4095) >>> ((9 : Int32) &&& 31)) &&& 4) = 0) (a := 0) (b := 1) (rest := [.ref (ad (20 + 4 * mi + t))]) (fun ja jb => ?_) ?_
  · refine lv_if_eq (tgt := 86) hx hb dX5_unpack_79 (by decide) (fun c_3 => ?_) (fun c_3 => ?_)
    · refine lv_iconst (v := 0) hx hb dX5_unpack_86 (by decide) ?_
      exact ja c_3
    · refine lv_iconst (v := 1) hx hb dX5_unpack_82 (by decide) ?_
      refine lv_goto (tgt := 87) hx hb dX5_unpack_83 (by decide) ?_
      exact jb c_3
  refine kr_put (C := "MonitorWays$Worker") (T := TX5) (N := 8) hx hb hts hin_X5 tyX5 ok_tyX5 ok_nX5 hown hK hP hD hS (20 + 4 * mi + t) (by omega) (fun _ => E_wk (mi := mi) (t := t) hmi ht _ _ _ _) rfl 5 (by decide) lk_f37 (fun _ h9 => h9) rfl rfl (nb_ite (by decide) (by decide)) (fb_ite (by decide) (by decide)) (fun _ => Nat.le_of_ble_eq_true rfl) (fun _ => rfl) dX5_unpack_87 (fun H locs hP hD hS => ?_)
  refine lv_aload_n hx hb dX5_unpack_90 rfl (lv_at hl 2 rfl) ?_
  refine lv_lload_n hx hb dX5_unpack_91 rfl (lv_at hl 3 rfl) ?_
  refine lv_bipush (v := 12) hx hb dX5_unpack_92 (by decide) ?_
  refine lv_lushr hx hb dX5_unpack_94 rfl ?_
  refine lv_l2i hx hb dX5_unpack_95 rfl ?_
  refine lv_ldc (v := 8388607) hx hb hown lk_c56 dX5_unpack_96 ?_
  refine lv_iand hx hb dX5_unpack_98 ?_
  refine kr_put (C := "MonitorWays$Worker") (T := TX5) (N := 8) hx hb hts hin_X5 tyX5 ok_tyX5 ok_nX5 hown hK hP hD hS (20 + 4 * mi + t) (by omega) (fun _ => E_wk (mi := mi) (t := t) hmi ht _ _ _ _) rfl 7 (by decide) lk_f40 (fun _ h9 => h9) rfl rfl rfl rfl (fun _ => Nat.le_of_ble_eq_true rfl) (fun _ => rfl) dX5_unpack_99 (fun H locs hP hD hS => ?_)
  exact kr_vret hx hb hr hlocks hK hP hD hS rfl dX5_unpack_102
