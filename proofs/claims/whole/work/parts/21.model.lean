def r_oOut (iv : Nat → Nat → Int32) (v n : Int32) : Int32 := if v < 0 then 1 else (if v < n then (0 : Int32) else 1)
theorem nb_oOut (iv : Nat → Nat → Int32) (v n : Int32) : narrow .boolean (.int (r_oOut iv v n)) = .int (r_oOut iv v n) := by
  unfold r_oOut; repeat' split
  all_goals rfl
set_option maxHeartbeats 4000000 in
set_option maxRecDepth 100000 in
theorem c_oOut (l : Launch) (D : va_G) (gc : Nat → ClassId) (ad ln : Nat → Nat) (iv : Nat → Nat → Int32) (lv : Nat → Nat → Int64) (v n : Int32) : kMi l yX7_out wX7_out ({ frames := 0, cells := 0, slots := 0, locals := 0 }) D vwCl (kT gc) 20 (rE gc) [.int v, .int n] (ad, ln, iv, lv) (ad, ln, iv, lv) (r_oOut iv v n) := by
  refine ki_start (cc := cX7_out) (maxL := 2) (ret := (some .boolean)) (by decide) rfl (Nat.le_of_ble_eq_true rfl) ?_
  intro p9 e9 s m9 below meth c9 A ls hx hb hr hts hown hlocks hml hA hK hP hD hS hl
  have hl : lv_has ls 2 [(0, .int v), (1, .int n)] := hl
  have hown : s.vm.findClass "MonitorWaysModel" = some m9.cls := hown
  refine lv_iload_n hx hb dX7_out_0 rfl (lv_at hl 0 rfl) ?_
  refine lv_if_lt (tgt := 9) hx hb dX7_out_1 (by decide) (fun c_1 => ?_) (fun c_1 => ?_)
  · refine lv_iconst (v := 1) hx hb dX7_out_9 (by decide) ?_
    refine lv_goto (tgt := 14) hx hb dX7_out_10 (by decide) ?_
    exact kr_zret hx hb hr hlocks hK hP hD hS (by decide) (by unfold r_oOut; rw [if_pos c_1]) rfl dX7_out_14
  · refine lv_iload_n hx hb dX7_out_4 rfl (lv_at hl 0 rfl) ?_
    refine lv_iload_n hx hb dX7_out_5 rfl (lv_at hl 1 rfl) ?_
    refine kr_tern (M := 14) (cnd := v < n) (a := 0) (b := 1) (rest := []) (fun ja jb => ?_) ?_
    · refine lv_icmp_lt (tgt := 13) hx hb dX7_out_6 (by decide) (fun c_2 => ?_) (fun c_2 => ?_)
      · refine lv_iconst (v := 0) hx hb dX7_out_13 (by decide) ?_
        exact ja c_2
      · refine lv_iconst (v := 1) hx hb dX7_out_9 (by decide) ?_
        refine lv_goto (tgt := 14) hx hb dX7_out_10 (by decide) ?_
        exact jb c_2
    exact kr_zret hx hb hr hlocks hK hP hD hS (nb_ite (by decide) (by decide)) (by unfold r_oOut; rw [if_neg c_1]) rfl dX7_out_14
def n_oPut (iv : Nat → Nat → Int32) (lv : Nat → Nat → Int64) (t : Nat) (x : Int32) : Nat → Nat → Int64 := (up2L lv 8 t ((12 * (lv 8 t)) + x.toInt64))
def m_oPut (iv : Nat → Nat → Int32) (t : Nat) (x : Int32) : Nat → Nat → Int32 := (up2 iv 7 t ((iv 7 t) + 1))
set_option maxHeartbeats 4000000 in
set_option maxRecDepth 100000 in
theorem c_oPut (l : Launch) (D : va_G) (gc : Nat → ClassId) (ad ln : Nat → Nat) (iv : Nat → Nat → Int32) (lv : Nat → Nat → Int64) (t : Nat) (ht : t < 4) (x : Int32) : kMv l yX7_put wX7_put ({ frames := 0, cells := 0, slots := 0, locals := 0 }) D vwCl (kT gc) 20 (rE gc) [.ref (ad 0), .int (nI t), .int x] (ad, ln, iv, lv) (ad, ln, m_oPut iv t x, n_oPut iv lv t x) := by
  refine kv_start (cc := cX7_put) (maxL := 3) (by decide) rfl (Nat.le_of_ble_eq_true rfl) ?_
  intro p9 e9 s m9 below meth c9 A ls hx hb hr hts hown hlocks hml hA hK hP hD hS hl
  have hl : lv_has ls 3 [(0, .ref (ad 0)), (1, .int (nI t)), (2, .int x)] := hl
  have hown : s.vm.findClass "MonitorWaysModel" = some m9.cls := hown
  have hin_X7 : ∀ w ∈ u_ws "MonitorWaysModel" TX7 27, w ∈ wX7_put := fun w h => tcons (inX7 w h)
  have lk_f31 := hts _ (tcons tw_582)
  have lk_c109 := hts _ (tcons tw_719)
  have lk_f28 := hts _ (tcons tw_581)
  refine lv_aload_n hx hb dX7_put_0 rfl (lv_at hl 0 rfl) ?_
  refine kr_get (C := "MonitorWaysModel") (T := TX7) (N := 27) hx hb hts hin_X7 hown hK hP 0 (by decide) (R_0 _ _ _ _) rfl 8 (by decide) lk_f31 (fun _ h9 => h9) rfl dX7_put_1 ?_
  refine lv_iload_n hx hb dX7_put_4 rfl (lv_at hl 1 rfl) ?_
  refine lv_ldc2 (v := 12) hx hb hown lk_c109 dX7_put_5 ?_
  refine lv_aload_n hx hb dX7_put_8 rfl (lv_at hl 0 rfl) ?_
  refine kr_get (C := "MonitorWaysModel") (T := TX7) (N := 27) hx hb hts hin_X7 hown hK hP 0 (by decide) (R_0 _ _ _ _) rfl 8 (by decide) lk_f31 (fun _ h9 => h9) rfl dX7_put_9 ?_
  refine lv_iload_n hx hb dX7_put_12 rfl (lv_at hl 1 rfl) ?_
  refine kr_laldN hx hb hK hP 8 2 (by decide) (R_8 _ _ _ _) rfl (j := t) (by omega) (by decide) dX7_put_13 ?_
  refine lv_lmul hx hb dX7_put_14 ?_
  refine lv_iload_n hx hb dX7_put_15 rfl (lv_at hl 2 rfl) ?_
  refine lv_i2l hx hb dX7_put_16 rfl ?_
  refine lv_ladd hx hb dX7_put_17 ?_
  refine kr_lastN hx hb hK hP hD hS 8 2 (by decide) (fun _ => R_8 _ _ _ _) rfl (j := t) (by omega) (by decide) dX7_put_18 (fun H locs hP hD hS => ?_)
  refine lv_aload_n hx hb dX7_put_19 rfl (lv_at hl 0 rfl) ?_
  refine kr_get (C := "MonitorWaysModel") (T := TX7) (N := 27) hx hb hts hin_X7 hown hK hP 0 (by decide) (R_0 _ _ _ _) rfl 7 (by decide) lk_f28 (fun _ h9 => h9) rfl dX7_put_20 ?_
  refine lv_iload_n hx hb dX7_put_23 rfl (lv_at hl 1 rfl) ?_
  refine lv_dup2_11 hx hb dX7_put_24 rfl rfl ?_
  refine kr_ialdN hx hb hK hP 7 0 (by decide) (R_7 _ _ _ _) rfl (j := t) (by omega) (by decide) dX7_put_25 ?_
  refine lv_iconst (v := 1) hx hb dX7_put_26 (by decide) ?_
  refine lv_iadd hx hb dX7_put_27 ?_
  refine kr_iastN hx hb hK hP hD hS 7 0 (by decide) (fun _ => R_7 _ _ _ _) rfl (j := t) (by omega) (by decide) dX7_put_28 (fun H locs hP hD hS => ?_)
  exact kr_vret hx hb hr hlocks hK hP hD hS (mem4 rfl rfl) dX7_put_29
def m_oRun (iv : Nat → Nat → Int32) (t : Nat) : Nat → Nat → Int32 := (up2 iv 5 t (if iv 4 t = iv 3 t then (4 : Int32) else 0))
set_option maxHeartbeats 4000000 in
set_option maxRecDepth 100000 in
theorem c_oRun (l : Launch) (D : va_G) (gc : Nat → ClassId) (ad ln : Nat → Nat) (iv : Nat → Nat → Int32) (lv : Nat → Nat → Int64) (t : Nat) (ht : t < 4) : kMv l yX7_run wX7_run ({ frames := 0, cells := 0, slots := 0, locals := 0 }) D vwCl (kT gc) 20 (rE gc) [.ref (ad 0), .int (nI t)] (ad, ln, iv, lv) (ad, ln, m_oRun iv t, lv) := by
  refine kv_start (cc := cX7_run) (maxL := 2) (by decide) rfl (Nat.le_of_ble_eq_true rfl) ?_
  intro p9 e9 s m9 below meth c9 A ls hx hb hr hts hown hlocks hml hA hK hP hD hS hl
  have hl : lv_has ls 2 [(0, .ref (ad 0)), (1, .int (nI t))] := hl
  have hown : s.vm.findClass "MonitorWaysModel" = some m9.cls := hown
  have hin_X7 : ∀ w ∈ u_ws "MonitorWaysModel" TX7 27, w ∈ wX7_run := fun w h => tcons (inX7 w h)
  have lk_f22 := hts _ (tcons tw_579)
  have lk_f19 := hts _ (tcons tw_578)
  have lk_f16 := hts _ (tcons tw_577)
  refine lv_aload_n hx hb dX7_run_0 rfl (lv_at hl 0 rfl) ?_
  refine kr_get (C := "MonitorWaysModel") (T := TX7) (N := 27) hx hb hts hin_X7 hown hK hP 0 (by decide) (R_0 _ _ _ _) rfl 5 (by decide) lk_f22 (fun _ h9 => h9) rfl dX7_run_1 ?_
  refine lv_iload_n hx hb dX7_run_4 rfl (lv_at hl 1 rfl) ?_
  refine lv_aload_n hx hb dX7_run_5 rfl (lv_at hl 0 rfl) ?_
  refine kr_get (C := "MonitorWaysModel") (T := TX7) (N := 27) hx hb hts hin_X7 hown hK hP 0 (by decide) (R_0 _ _ _ _) rfl 4 (by decide) lk_f19 (fun _ h9 => h9) rfl dX7_run_6 ?_
  refine lv_iload_n hx hb dX7_run_9 rfl (lv_at hl 1 rfl) ?_
  refine kr_ialdN hx hb hK hP 4 0 (by decide) (R_4 _ _ _ _) rfl (j := t) (by omega) (by decide) dX7_run_10 ?_
  refine lv_aload_n hx hb dX7_run_11 rfl (lv_at hl 0 rfl) ?_
  refine kr_get (C := "MonitorWaysModel") (T := TX7) (N := 27) hx hb hts hin_X7 hown hK hP 0 (by decide) (R_0 _ _ _ _) rfl 3 (by decide) lk_f16 (fun _ h9 => h9) rfl dX7_run_12 ?_
  refine lv_iload_n hx hb dX7_run_15 rfl (lv_at hl 1 rfl) ?_
  refine kr_ialdN hx hb hK hP 3 0 (by decide) (R_3 _ _ _ _) rfl (j := t) (by omega) (by decide) dX7_run_16 ?_
  refine kr_tern (M := 25) (cnd := iv 4 t = iv 3 t) (a := 4) (b := 0) (rest := [.int (nI t), .ref (ad 5)]) (fun ja jb => ?_) ?_
  · refine lv_icmp_ne (tgt := 24) hx hb dX7_run_17 (by decide) (fun c_1 => ?_) (fun c_1 => ?_)
    · refine lv_iconst (v := 0) hx hb dX7_run_24 (by decide) ?_
      exact jb c_1
    · refine lv_iconst (v := 4) hx hb dX7_run_20 (by decide) ?_
      refine lv_goto (tgt := 25) hx hb dX7_run_21 (by decide) ?_
      exact ja c_1
  refine kr_iastN hx hb hK hP hD hS 5 0 (by decide) (fun _ => R_5 _ _ _ _) rfl (j := t) (by omega) (by decide) dX7_run_25 (fun H locs hP hD hS => ?_)
  exact kr_vret hx hb hr hlocks hK hP hD hS rfl dX7_run_26
def m_oUnpark (iv : Nat → Nat → Int32) (t : Nat) : Nat → Nat → Int32 := if iv 5 t = 3 then (m_oRun iv t) else if iv 5 t = 4 then iv else (up2 iv 10 t 1)
set_option maxHeartbeats 4000000 in
set_option maxRecDepth 100000 in
theorem c_oUnpark (l : Launch) (D : va_G) (gc : Nat → ClassId) (ad ln : Nat → Nat) (iv : Nat → Nat → Int32) (lv : Nat → Nat → Int64) (t : Nat) (ht : t < 4) : kMv l yX7_unpark wX7_unpark ({ frames := 1, cells := 0, slots := 0, locals := 21 }) D vwCl (kT gc) 20 (rE gc) [.ref (ad 0), .int (nI t)] (ad, ln, iv, lv) (ad, ln, m_oUnpark iv t, lv) := by
  refine kv_start (cc := cX7_unpark) (maxL := 2) (by decide) rfl (Nat.le_of_ble_eq_true rfl) ?_
  intro p9 e9 s m9 below meth c9 A ls hx hb hr hts hown hlocks hml hA hK hP hD hS hl
  have hl : lv_has ls 2 [(0, .ref (ad 0)), (1, .int (nI t))] := hl
  have hown : s.vm.findClass "MonitorWaysModel" = some m9.cls := hown
  have hin_X7 : ∀ w ∈ u_ws "MonitorWaysModel" TX7 27, w ∈ wX7_unpark := fun w h => tcons (inX7 w h)
  have lk_f22 := hts _ (tcons tw_579)
  have lk_f39 := hts _ (tcons tw_584)
  refine lv_aload_n hx hb dX7_unpark_0 rfl (lv_at hl 0 rfl) ?_
  refine kr_get (C := "MonitorWaysModel") (T := TX7) (N := 27) hx hb hts hin_X7 hown hK hP 0 (by decide) (R_0 _ _ _ _) rfl 5 (by decide) lk_f22 (fun _ h9 => h9) rfl dX7_unpark_1 ?_
  refine lv_iload_n hx hb dX7_unpark_4 rfl (lv_at hl 1 rfl) ?_
  refine kr_ialdN hx hb hK hP 5 0 (by decide) (R_5 _ _ _ _) rfl (j := t) (by omega) (by decide) dX7_unpark_5 ?_
  refine lv_iconst (v := 3) hx hb dX7_unpark_6 (by decide) ?_
  refine lv_icmp_ne (tgt := 18) hx hb dX7_unpark_7 (by decide) (fun c_1 => ?_) (fun c_1 => ?_)
  · refine lv_aload_n hx hb dX7_unpark_18 rfl (lv_at hl 0 rfl) ?_
    refine kr_get (C := "MonitorWaysModel") (T := TX7) (N := 27) hx hb hts hin_X7 hown hK hP 0 (by decide) (R_0 _ _ _ _) rfl 5 (by decide) lk_f22 (fun _ h9 => h9) rfl dX7_unpark_19 ?_
    refine lv_iload_n hx hb dX7_unpark_22 rfl (lv_at hl 1 rfl) ?_
    refine kr_ialdN hx hb hK hP 5 0 (by decide) (R_5 _ _ _ _) rfl (j := t) (by omega) (by decide) dX7_unpark_23 ?_
    refine lv_iconst (v := 4) hx hb dX7_unpark_24 (by decide) ?_
    refine lv_icmp_eq (tgt := 35) hx hb dX7_unpark_25 (by decide) (fun c_2 => ?_) (fun c_2 => ?_)
    · exact kr_vret hx hb hr hlocks hK hP hD hS (by unfold m_oUnpark; rw [if_neg c_1, if_pos c_2]) dX7_unpark_35
    · refine lv_aload_n hx hb dX7_unpark_28 rfl (lv_at hl 0 rfl) ?_
      refine kr_get (C := "MonitorWaysModel") (T := TX7) (N := 27) hx hb hts hin_X7 hown hK hP 0 (by decide) (R_0 _ _ _ _) rfl 10 (by decide) lk_f39 (fun _ h9 => h9) rfl dX7_unpark_29 ?_
      refine lv_iload_n hx hb dX7_unpark_32 rfl (lv_at hl 1 rfl) ?_
      refine lv_iconst (v := 1) hx hb dX7_unpark_33 (by decide) ?_
      refine kr_zastN hx hb hK hP hD hS 10 1 (by decide) (fun _ => R_10 _ _ _ _) rfl (j := t) (by omega) (by decide) (by decide) dX7_unpark_34 (fun H locs hP hD hS => ?_)
      exact kr_vret hx hb hr hlocks hK hP hD hS (by unfold m_oUnpark; rw [if_neg c_1, if_neg c_2]) dX7_unpark_35
  · refine lv_aload_n hx hb dX7_unpark_10 rfl (lv_at hl 0 rfl) ?_
    refine lv_iload_n hx hb dX7_unpark_11 rfl (lv_at hl 1 rfl) ?_
    refine kr_callVv (As := [.int (nI t)]) (rest := []) ⟨hx, hb, hml, hown, hts⟩ (c_oRun l D gc ad ln iv lv t (by omega)) (cwV 1 hts (goodV (fun _ h => tcons h) tw_740 tw_742 ts_45 tw_8 tw_743) rfl rfl rfl (by decide +kernel) ⟨Nat.le_of_ble_eq_true rfl, Nat.le_of_ble_eq_true rfl⟩) (kr_recv hK hP 0 (by decide) (R_0 _ _ _ _) rfl) hK hP hD hS hA rfl hl.1 rfl (Nat.le_of_ble_eq_true rfl) dX7_unpark_12 ⟨Nat.le_of_ble_eq_true rfl, Nat.le_of_ble_eq_true rfl⟩ (fun H locs hP hD hS => ?_)
    refine lv_goto (tgt := 35) hx hb dX7_unpark_15 (by decide) ?_
    exact kr_vret hx hb hr hlocks hK hP hD hS (by unfold m_oUnpark; rw [if_pos c_1]) dX7_unpark_35
def r_oAction (iv : Nat → Nat → Int32) (t p : Nat) : Int32 := iv 1 ((6 * t) + p)
set_option maxHeartbeats 4000000 in
set_option maxRecDepth 100000 in
theorem c_oAction (l : Launch) (D : va_G) (gc : Nat → ClassId) (ad ln : Nat → Nat) (iv : Nat → Nat → Int32) (lv : Nat → Nat → Int64) (t : Nat) (ht : t < 4) (p : Nat) (hp : iv 4 t = nI p) (hp6 : p < 6) : kMi l yX7_action wX7_action ({ frames := 0, cells := 0, slots := 0, locals := 0 }) D vwCl (kT gc) 20 (rE gc) [.ref (ad 0), .int (nI t)] (ad, ln, iv, lv) (ad, ln, iv, lv) (r_oAction iv t p) := by
  refine ki_start (cc := cX7_action) (maxL := 2) (ret := (some .int)) (by decide) rfl (Nat.le_of_ble_eq_true rfl) ?_
  intro p9 e9 s m9 below meth c9 A ls hx hb hr hts hown hlocks hml hA hK hP hD hS hl
  have hl : lv_has ls 2 [(0, .ref (ad 0)), (1, .int (nI t))] := hl
  have hown : s.vm.findClass "MonitorWaysModel" = some m9.cls := hown
  have hin_X7 : ∀ w ∈ u_ws "MonitorWaysModel" TX7 27, w ∈ wX7_action := fun w h => tcons (inX7 w h)
  have lk_f7 := hts _ (tcons tw_575)
  have lk_f19 := hts _ (tcons tw_578)
  refine lv_aload_n hx hb dX7_action_0 rfl (lv_at hl 0 rfl) ?_
  refine kr_get (C := "MonitorWaysModel") (T := TX7) (N := 27) hx hb hts hin_X7 hown hK hP 0 (by decide) (R_0 _ _ _ _) rfl 1 (by decide) lk_f7 (fun _ h9 => h9) rfl dX7_action_1 ?_
  refine lv_bipush (v := 6) hx hb dX7_action_4 (by decide) ?_
  refine lv_iload_n hx hb dX7_action_6 rfl (lv_at hl 1 rfl) ?_
  refine lv_imul hx hb dX7_action_7 ?_
  refine kr_topi (y := nI (6 * t)) (pk_mul 6 t) ?_
  refine lv_aload_n hx hb dX7_action_8 rfl (lv_at hl 0 rfl) ?_
  refine kr_get (C := "MonitorWaysModel") (T := TX7) (N := 27) hx hb hts hin_X7 hown hK hP 0 (by decide) (R_0 _ _ _ _) rfl 4 (by decide) lk_f19 (fun _ h9 => h9) rfl dX7_action_9 ?_
  refine lv_iload_n hx hb dX7_action_12 rfl (lv_at hl 1 rfl) ?_
  refine kr_ialdN hx hb hK hP 4 0 (by decide) (R_4 _ _ _ _) rfl (j := t) (by omega) (by decide) dX7_action_13 ?_
  refine kr_topi (y := nI p) hp ?_
  refine lv_iadd hx hb dX7_action_14 ?_
  refine kr_topi (y := nI ((6 * t) + p)) (nI_add (6 * t) p) ?_
  refine kr_ialdN hx hb hK hP 1 0 (by decide) (R_1 _ _ _ _) rfl (j := ((6 * t) + p)) (by omega) (by decide) dX7_action_15 ?_
  exact kr_iret hx hb hr hlocks hK hP hD hS rfl rfl dX7_action_16
def r_oOperand (iv : Nat → Nat → Int32) (t p : Nat) : Int32 := iv 2 ((6 * t) + p)
set_option maxHeartbeats 4000000 in
set_option maxRecDepth 100000 in
theorem c_oOperand (l : Launch) (D : va_G) (gc : Nat → ClassId) (ad ln : Nat → Nat) (iv : Nat → Nat → Int32) (lv : Nat → Nat → Int64) (t : Nat) (ht : t < 4) (p : Nat) (hp : iv 4 t = nI p) (hp6 : p < 6) : kMi l yX7_operand wX7_operand ({ frames := 0, cells := 0, slots := 0, locals := 0 }) D vwCl (kT gc) 20 (rE gc) [.ref (ad 0), .int (nI t)] (ad, ln, iv, lv) (ad, ln, iv, lv) (r_oOperand iv t p) := by
  refine ki_start (cc := cX7_operand) (maxL := 2) (ret := (some .int)) (by decide) rfl (Nat.le_of_ble_eq_true rfl) ?_
  intro p9 e9 s m9 below meth c9 A ls hx hb hr hts hown hlocks hml hA hK hP hD hS hl
  have hl : lv_has ls 2 [(0, .ref (ad 0)), (1, .int (nI t))] := hl
  have hown : s.vm.findClass "MonitorWaysModel" = some m9.cls := hown
  have hin_X7 : ∀ w ∈ u_ws "MonitorWaysModel" TX7 27, w ∈ wX7_operand := fun w h => tcons (inX7 w h)
  have lk_f13 := hts _ (tcons tw_576)
  have lk_f19 := hts _ (tcons tw_578)
  refine lv_aload_n hx hb dX7_operand_0 rfl (lv_at hl 0 rfl) ?_
  refine kr_get (C := "MonitorWaysModel") (T := TX7) (N := 27) hx hb hts hin_X7 hown hK hP 0 (by decide) (R_0 _ _ _ _) rfl 2 (by decide) lk_f13 (fun _ h9 => h9) rfl dX7_operand_1 ?_
  refine lv_bipush (v := 6) hx hb dX7_operand_4 (by decide) ?_
  refine lv_iload_n hx hb dX7_operand_6 rfl (lv_at hl 1 rfl) ?_
  refine lv_imul hx hb dX7_operand_7 ?_
  refine kr_topi (y := nI (6 * t)) (pk_mul 6 t) ?_
  refine lv_aload_n hx hb dX7_operand_8 rfl (lv_at hl 0 rfl) ?_
  refine kr_get (C := "MonitorWaysModel") (T := TX7) (N := 27) hx hb hts hin_X7 hown hK hP 0 (by decide) (R_0 _ _ _ _) rfl 4 (by decide) lk_f19 (fun _ h9 => h9) rfl dX7_operand_9 ?_
  refine lv_iload_n hx hb dX7_operand_12 rfl (lv_at hl 1 rfl) ?_
  refine kr_ialdN hx hb hK hP 4 0 (by decide) (R_4 _ _ _ _) rfl (j := t) (by omega) (by decide) dX7_operand_13 ?_
  refine kr_topi (y := nI p) hp ?_
  refine lv_iadd hx hb dX7_operand_14 ?_
  refine kr_topi (y := nI ((6 * t) + p)) (nI_add (6 * t) p) ?_
  refine kr_ialdN hx hb hK hP 2 0 (by decide) (R_2 _ _ _ _) rfl (j := ((6 * t) + p)) (by omega) (by decide) dX7_operand_15 ?_
  exact kr_iret hx hb hr hlocks hK hP hD hS rfl rfl dX7_operand_16
def r_oWaited (iv : Nat → Nat → Int32) (t p : Nat) : Int32 := iv 2 (((6 * t) + p) - 1)
set_option maxHeartbeats 4000000 in
set_option maxRecDepth 100000 in
theorem c_oWaited (l : Launch) (D : va_G) (gc : Nat → ClassId) (ad ln : Nat → Nat) (iv : Nat → Nat → Int32) (lv : Nat → Nat → Int64) (t : Nat) (ht : t < 4) (p : Nat) (hp : iv 4 t = nI p) (hp1 : 1 ≤ p) (hp6 : p ≤ 6) : kMi l yX7_waitedOn wX7_waitedOn ({ frames := 0, cells := 0, slots := 0, locals := 0 }) D vwCl (kT gc) 20 (rE gc) [.ref (ad 0), .int (nI t)] (ad, ln, iv, lv) (ad, ln, iv, lv) (r_oWaited iv t p) := by
  refine ki_start (cc := cX7_waitedOn) (maxL := 2) (ret := (some .int)) (by decide) rfl (Nat.le_of_ble_eq_true rfl) ?_
  intro p9 e9 s m9 below meth c9 A ls hx hb hr hts hown hlocks hml hA hK hP hD hS hl
  have hl : lv_has ls 2 [(0, .ref (ad 0)), (1, .int (nI t))] := hl
  have hown : s.vm.findClass "MonitorWaysModel" = some m9.cls := hown
  have hin_X7 : ∀ w ∈ u_ws "MonitorWaysModel" TX7 27, w ∈ wX7_waitedOn := fun w h => tcons (inX7 w h)
  have lk_f13 := hts _ (tcons tw_576)
  have lk_f19 := hts _ (tcons tw_578)
  refine lv_aload_n hx hb dX7_waitedOn_0 rfl (lv_at hl 0 rfl) ?_
  refine kr_get (C := "MonitorWaysModel") (T := TX7) (N := 27) hx hb hts hin_X7 hown hK hP 0 (by decide) (R_0 _ _ _ _) rfl 2 (by decide) lk_f13 (fun _ h9 => h9) rfl dX7_waitedOn_1 ?_
  refine lv_bipush (v := 6) hx hb dX7_waitedOn_4 (by decide) ?_
  refine lv_iload_n hx hb dX7_waitedOn_6 rfl (lv_at hl 1 rfl) ?_
  refine lv_imul hx hb dX7_waitedOn_7 ?_
  refine kr_topi (y := nI (6 * t)) (pk_mul 6 t) ?_
  refine lv_aload_n hx hb dX7_waitedOn_8 rfl (lv_at hl 0 rfl) ?_
  refine kr_get (C := "MonitorWaysModel") (T := TX7) (N := 27) hx hb hts hin_X7 hown hK hP 0 (by decide) (R_0 _ _ _ _) rfl 4 (by decide) lk_f19 (fun _ h9 => h9) rfl dX7_waitedOn_9 ?_
  refine lv_iload_n hx hb dX7_waitedOn_12 rfl (lv_at hl 1 rfl) ?_
  refine kr_ialdN hx hb hK hP 4 0 (by decide) (R_4 _ _ _ _) rfl (j := t) (by omega) (by decide) dX7_waitedOn_13 ?_
  refine kr_topi (y := nI p) hp ?_
  refine lv_iadd hx hb dX7_waitedOn_14 ?_
  refine kr_topi (y := nI ((6 * t) + p)) (nI_add (6 * t) p) ?_
  refine lv_iconst (v := 1) hx hb dX7_waitedOn_15 (by decide) ?_
  refine lv_isub hx hb dX7_waitedOn_16 ?_
  refine kr_topi (y := nI (((6 * t) + p) - 1)) (pk_sub (a := ((6 * t) + p)) (b := 1) (by omega)) ?_
  refine kr_ialdN hx hb hK hP 2 0 (by decide) (R_2 _ _ _ _) rfl (j := (((6 * t) + p) - 1)) (by omega) (by decide) dX7_waitedOn_17 ?_
  exact kr_iret hx hb hr hlocks hK hP hD hS rfl rfl dX7_waitedOn_18
def r_oTimed (iv : Nat → Nat → Int32) (t p : Nat) : Int32 := (if iv 1 (((6 * t) + p) - 1) = 3 then (1 : Int32) else 0)
theorem nb_oTimed (iv : Nat → Nat → Int32) (t p : Nat) : narrow .boolean (.int (r_oTimed iv t p)) = .int (r_oTimed iv t p) := by
  unfold r_oTimed; repeat' split
  all_goals rfl
set_option maxHeartbeats 4000000 in
set_option maxRecDepth 100000 in
theorem c_oTimed (l : Launch) (D : va_G) (gc : Nat → ClassId) (ad ln : Nat → Nat) (iv : Nat → Nat → Int32) (lv : Nat → Nat → Int64) (t : Nat) (ht : t < 4) (p : Nat) (hp : iv 4 t = nI p) (hp1 : 1 ≤ p) (hp6 : p ≤ 6) : kMi l yX7_timed wX7_timed ({ frames := 0, cells := 0, slots := 0, locals := 0 }) D vwCl (kT gc) 20 (rE gc) [.ref (ad 0), .int (nI t)] (ad, ln, iv, lv) (ad, ln, iv, lv) (r_oTimed iv t p) := by
  refine ki_start (cc := cX7_timed) (maxL := 2) (ret := (some .boolean)) (by decide) rfl (Nat.le_of_ble_eq_true rfl) ?_
  intro p9 e9 s m9 below meth c9 A ls hx hb hr hts hown hlocks hml hA hK hP hD hS hl
  have hl : lv_has ls 2 [(0, .ref (ad 0)), (1, .int (nI t))] := hl
  have hown : s.vm.findClass "MonitorWaysModel" = some m9.cls := hown
  have hin_X7 : ∀ w ∈ u_ws "MonitorWaysModel" TX7 27, w ∈ wX7_timed := fun w h => tcons (inX7 w h)
  have lk_f7 := hts _ (tcons tw_575)
  have lk_f19 := hts _ (tcons tw_578)
  refine lv_aload_n hx hb dX7_timed_0 rfl (lv_at hl 0 rfl) ?_
  refine kr_get (C := "MonitorWaysModel") (T := TX7) (N := 27) hx hb hts hin_X7 hown hK hP 0 (by decide) (R_0 _ _ _ _) rfl 1 (by decide) lk_f7 (fun _ h9 => h9) rfl dX7_timed_1 ?_
  refine lv_bipush (v := 6) hx hb dX7_timed_4 (by decide) ?_
  refine lv_iload_n hx hb dX7_timed_6 rfl (lv_at hl 1 rfl) ?_
  refine lv_imul hx hb dX7_timed_7 ?_
  refine kr_topi (y := nI (6 * t)) (pk_mul 6 t) ?_
  refine lv_aload_n hx hb dX7_timed_8 rfl (lv_at hl 0 rfl) ?_
  refine kr_get (C := "MonitorWaysModel") (T := TX7) (N := 27) hx hb hts hin_X7 hown hK hP 0 (by decide) (R_0 _ _ _ _) rfl 4 (by decide) lk_f19 (fun _ h9 => h9) rfl dX7_timed_9 ?_
  refine lv_iload_n hx hb dX7_timed_12 rfl (lv_at hl 1 rfl) ?_
  refine kr_ialdN hx hb hK hP 4 0 (by decide) (R_4 _ _ _ _) rfl (j := t) (by omega) (by decide) dX7_timed_13 ?_
  refine kr_topi (y := nI p) hp ?_
  refine lv_iadd hx hb dX7_timed_14 ?_
  refine kr_topi (y := nI ((6 * t) + p)) (nI_add (6 * t) p) ?_
  refine lv_iconst (v := 1) hx hb dX7_timed_15 (by decide) ?_
  refine lv_isub hx hb dX7_timed_16 ?_
  refine kr_topi (y := nI (((6 * t) + p) - 1)) (pk_sub (a := ((6 * t) + p)) (b := 1) (by omega)) ?_
  refine kr_ialdN hx hb hK hP 1 0 (by decide) (R_1 _ _ _ _) rfl (j := (((6 * t) + p) - 1)) (by omega) (by decide) dX7_timed_17 ?_
  refine lv_iconst (v := 3) hx hb dX7_timed_18 (by decide) ?_
  refine kr_tern (M := 27) (cnd := iv 1 (((6 * t) + p) - 1) = 3) (a := 1) (b := 0) (rest := []) (fun ja jb => ?_) ?_
  · refine lv_icmp_ne (tgt := 26) hx hb dX7_timed_19 (by decide) (fun c_1 => ?_) (fun c_1 => ?_)
    · refine lv_iconst (v := 0) hx hb dX7_timed_26 (by decide) ?_
      exact jb c_1
    · refine lv_iconst (v := 1) hx hb dX7_timed_22 (by decide) ?_
      refine lv_goto (tgt := 27) hx hb dX7_timed_23 (by decide) ?_
      exact ja c_1
  exact kr_zret hx hb hr hlocks hK hP hD hS (nb_ite (by decide) (by decide)) rfl rfl dX7_timed_27
def n_oFirst (iv : Nat → Nat → Int32) (lv : Nat → Nat → Int64) : Nat → Nat → Int64 := (up2L (up2L (up2L (up2L lv 8 0 0) 8 1 0) 8 2 0) 8 3 0)
def m_oFirst (iv : Nat → Nat → Int32) : Nat → Nat → Int32 := (up2 (up2 (up2 (up2 (up2 (up2 (up2 (up2 (up2 (up2 (up2 (up2 (up2 (up2 (up2 (up2 (up2 (up2 (up2 (up2 (up2 (up2 (up2 (up2 (up2 (up2 (up2 (up2 (up2 (up2 (up2 (up2 (up2 (up2 iv 7 0 0) 6 0 0) 4 0 0) 5 0 (if (up2 (up2 (up2 iv 7 0 0) 6 0 0) 4 0 0) 3 0 = 0 then (4 : Int32) else 0)) 11 0 0) 10 0 0) 9 0 0) 7 1 0) 6 1 0) 4 1 0) 5 1 (if (up2 (up2 (up2 (up2 (up2 (up2 (up2 (up2 (up2 (up2 iv 7 0 0) 6 0 0) 4 0 0) 5 0 (if (up2 (up2 (up2 iv 7 0 0) 6 0 0) 4 0 0) 3 0 = 0 then (4 : Int32) else 0)) 11 0 0) 10 0 0) 9 0 0) 7 1 0) 6 1 0) 4 1 0) 3 1 = 0 then (4 : Int32) else 0)) 11 1 0) 10 1 0) 9 1 0) 7 2 0) 6 2 0) 4 2 0) 5 2 (if (up2 (up2 (up2 (up2 (up2 (up2 (up2 (up2 (up2 (up2 (up2 (up2 (up2 (up2 (up2 (up2 (up2 iv 7 0 0) 6 0 0) 4 0 0) 5 0 (if (up2 (up2 (up2 iv 7 0 0) 6 0 0) 4 0 0) 3 0 = 0 then (4 : Int32) else 0)) 11 0 0) 10 0 0) 9 0 0) 7 1 0) 6 1 0) 4 1 0) 5 1 (if (up2 (up2 (up2 (up2 (up2 (up2 (up2 (up2 (up2 (up2 iv 7 0 0) 6 0 0) 4 0 0) 5 0 (if (up2 (up2 (up2 iv 7 0 0) 6 0 0) 4 0 0) 3 0 = 0 then (4 : Int32) else 0)) 11 0 0) 10 0 0) 9 0 0) 7 1 0) 6 1 0) 4 1 0) 3 1 = 0 then (4 : Int32) else 0)) 11 1 0) 10 1 0) 9 1 0) 7 2 0) 6 2 0) 4 2 0) 3 2 = 0 then (4 : Int32) else 0)) 11 2 0) 10 2 0) 9 2 0) 7 3 0) 6 3 0) 4 3 0) 5 3 (if (up2 (up2 (up2 (up2 (up2 (up2 (up2 (up2 (up2 (up2 (up2 (up2 (up2 (up2 (up2 (up2 (up2 (up2 (up2 (up2 (up2 (up2 (up2 (up2 iv 7 0 0) 6 0 0) 4 0 0) 5 0 (if (up2 (up2 (up2 iv 7 0 0) 6 0 0) 4 0 0) 3 0 = 0 then (4 : Int32) else 0)) 11 0 0) 10 0 0) 9 0 0) 7 1 0) 6 1 0) 4 1 0) 5 1 (if (up2 (up2 (up2 (up2 (up2 (up2 (up2 (up2 (up2 (up2 iv 7 0 0) 6 0 0) 4 0 0) 5 0 (if (up2 (up2 (up2 iv 7 0 0) 6 0 0) 4 0 0) 3 0 = 0 then (4 : Int32) else 0)) 11 0 0) 10 0 0) 9 0 0) 7 1 0) 6 1 0) 4 1 0) 3 1 = 0 then (4 : Int32) else 0)) 11 1 0) 10 1 0) 9 1 0) 7 2 0) 6 2 0) 4 2 0) 5 2 (if (up2 (up2 (up2 (up2 (up2 (up2 (up2 (up2 (up2 (up2 (up2 (up2 (up2 (up2 (up2 (up2 (up2 iv 7 0 0) 6 0 0) 4 0 0) 5 0 (if (up2 (up2 (up2 iv 7 0 0) 6 0 0) 4 0 0) 3 0 = 0 then (4 : Int32) else 0)) 11 0 0) 10 0 0) 9 0 0) 7 1 0) 6 1 0) 4 1 0) 5 1 (if (up2 (up2 (up2 (up2 (up2 (up2 (up2 (up2 (up2 (up2 iv 7 0 0) 6 0 0) 4 0 0) 5 0 (if (up2 (up2 (up2 iv 7 0 0) 6 0 0) 4 0 0) 3 0 = 0 then (4 : Int32) else 0)) 11 0 0) 10 0 0) 9 0 0) 7 1 0) 6 1 0) 4 1 0) 3 1 = 0 then (4 : Int32) else 0)) 11 1 0) 10 1 0) 9 1 0) 7 2 0) 6 2 0) 4 2 0) 3 2 = 0 then (4 : Int32) else 0)) 11 2 0) 10 2 0) 9 2 0) 7 3 0) 6 3 0) 4 3 0) 3 3 = 0 then (4 : Int32) else 0)) 11 3 0) 10 3 0) 9 3 0) 12 0 (-1)) 14 0 0) 13 0 0) 12 1 (-1)) 14 1 0) 13 1 0)
set_option maxHeartbeats 4000000 in
set_option maxRecDepth 100000 in
theorem c_oFirst (l : Launch) (D : va_G) (gc : Nat → ClassId) (ad ln : Nat → Nat) (iv : Nat → Nat → Int32) (lv : Nat → Nat → Int64) : kMv l yX7_first wX7_first ({ frames := 0, cells := 0, slots := 0, locals := 0 }) D vwCl (kT gc) 20 (rE gc) [.ref (ad 0)] (ad, ln, iv, lv) (ad, ln, m_oFirst iv, n_oFirst iv lv) := by
  refine kv_start (cc := cX7_first) (maxL := 2) (by decide) rfl (Nat.le_of_ble_eq_true rfl) ?_
  intro p9 e9 s m9 below meth c9 A ls hx hb hr hts hown hlocks hml hA hK hP hD hS hl
  have hl : lv_has ls 2 [(0, .ref (ad 0))] := hl
  have hown : s.vm.findClass "MonitorWaysModel" = some m9.cls := hown
  have hin_X7 : ∀ w ∈ u_ws "MonitorWaysModel" TX7 27, w ∈ wX7_first := fun w h => tcons (inX7 w h)
  have lk_f19 := hts _ (tcons tw_578)
  have lk_f25 := hts _ (tcons tw_580)
  have lk_f28 := hts _ (tcons tw_581)
  have lk_f31 := hts _ (tcons tw_582)
  have lk_f22 := hts _ (tcons tw_579)
  have lk_f16 := hts _ (tcons tw_577)
  have lk_f35 := hts _ (tcons tw_583)
  have lk_f39 := hts _ (tcons tw_584)
  have lk_f42 := hts _ (tcons tw_585)
  have lk_f45 := hts _ (tcons tw_586)
  have lk_f48 := hts _ (tcons tw_587)
  have lk_f51 := hts _ (tcons tw_588)
  refine lv_iconst (v := 0) hx hb dX7_first_0 (by decide) ?_
  refine lv_istore_n (lv' := [(1, .int 0), (0, .ref (ad 0))]) hx hb dX7_first_1 rfl hl (by decide) rfl (fun ls hl => ?_)
  refine lv_iload_n hx hb dX7_first_2 rfl (lv_at hl 0 rfl) ?_
  refine lv_iconst (v := 4) hx hb dX7_first_3 (by decide) ?_
  refine lv_icmp_ge (tgt := 82) hx hb dX7_first_4 (by decide) (fun c_1 => absurd c_1 (by decide)) (fun c_1 => ?_)
  refine lv_aload_n hx hb dX7_first_7 rfl (lv_at hl 1 rfl) ?_
  refine kr_get (C := "MonitorWaysModel") (T := TX7) (N := 27) hx hb hts hin_X7 hown hK hP 0 (by decide) (R_0 _ _ _ _) rfl 4 (by decide) lk_f19 (fun _ h9 => h9) rfl dX7_first_8 ?_
  refine lv_iload_n hx hb dX7_first_11 rfl (lv_at hl 0 rfl) ?_
  refine lv_aload_n hx hb dX7_first_12 rfl (lv_at hl 1 rfl) ?_
  refine kr_get (C := "MonitorWaysModel") (T := TX7) (N := 27) hx hb hts hin_X7 hown hK hP 0 (by decide) (R_0 _ _ _ _) rfl 6 (by decide) lk_f25 (fun _ h9 => h9) rfl dX7_first_13 ?_
  refine lv_iload_n hx hb dX7_first_16 rfl (lv_at hl 0 rfl) ?_
  refine lv_aload_n hx hb dX7_first_17 rfl (lv_at hl 1 rfl) ?_
  refine kr_get (C := "MonitorWaysModel") (T := TX7) (N := 27) hx hb hts hin_X7 hown hK hP 0 (by decide) (R_0 _ _ _ _) rfl 7 (by decide) lk_f28 (fun _ h9 => h9) rfl dX7_first_18 ?_
  refine lv_iload_n hx hb dX7_first_21 rfl (lv_at hl 0 rfl) ?_
  refine lv_iconst (v := 0) hx hb dX7_first_22 (by decide) ?_
  refine lv_dup_x2 hx hb dX7_first_23 rfl rfl rfl ?_
  refine kr_iastN hx hb hK hP hD hS 7 0 (by decide) (fun _ => R_7 _ _ _ _) rfl (j := 0) (by decide) (by decide) dX7_first_24 (fun H locs hP hD hS => ?_)
  refine lv_dup_x2 hx hb dX7_first_25 rfl rfl rfl ?_
  refine kr_iastN hx hb hK hP hD hS 6 0 (by decide) (fun _ => R_6 _ _ _ _) rfl (j := 0) (by decide) (by decide) dX7_first_26 (fun H locs hP hD hS => ?_)
  refine kr_iastN hx hb hK hP hD hS 4 0 (by decide) (fun _ => R_4 _ _ _ _) rfl (j := 0) (by decide) (by decide) dX7_first_27 (fun H locs hP hD hS => ?_)
  refine lv_aload_n hx hb dX7_first_28 rfl (lv_at hl 1 rfl) ?_
  refine kr_get (C := "MonitorWaysModel") (T := TX7) (N := 27) hx hb hts hin_X7 hown hK hP 0 (by decide) (R_0 _ _ _ _) rfl 8 (by decide) lk_f31 (fun _ h9 => h9) rfl dX7_first_29 ?_
  refine lv_iload_n hx hb dX7_first_32 rfl (lv_at hl 0 rfl) ?_
  refine lv_lconst (v := 0) hx hb dX7_first_33 (by decide) ?_
  refine kr_lastN hx hb hK hP hD hS 8 2 (by decide) (fun _ => R_8 _ _ _ _) rfl (j := 0) (by decide) (by decide) dX7_first_34 (fun H locs hP hD hS => ?_)
  refine lv_aload_n hx hb dX7_first_35 rfl (lv_at hl 1 rfl) ?_
  refine kr_get (C := "MonitorWaysModel") (T := TX7) (N := 27) hx hb hts hin_X7 hown hK hP 0 (by decide) (R_0 _ _ _ _) rfl 5 (by decide) lk_f22 (fun _ h9 => h9) rfl dX7_first_36 ?_
  refine lv_iload_n hx hb dX7_first_39 rfl (lv_at hl 0 rfl) ?_
  refine lv_aload_n hx hb dX7_first_40 rfl (lv_at hl 1 rfl) ?_
  refine kr_get (C := "MonitorWaysModel") (T := TX7) (N := 27) hx hb hts hin_X7 hown hK hP 0 (by decide) (R_0 _ _ _ _) rfl 3 (by decide) lk_f16 (fun _ h9 => h9) rfl dX7_first_41 ?_
  refine lv_iload_n hx hb dX7_first_44 rfl (lv_at hl 0 rfl) ?_
  refine kr_ialdN hx hb hK hP 3 0 (by decide) (R_3 _ _ _ _) rfl (j := 0) (by decide) (by decide) dX7_first_45 ?_
  refine kr_tern (M := 54) (cnd := (up2 (up2 (up2 iv 7 0 0) 6 0 0) 4 0 0) 3 0 = 0) (a := 4) (b := 0) (rest := [.int 0, .ref (ad 5)]) (fun ja jb => ?_) ?_
  · refine lv_if_ne (tgt := 53) hx hb dX7_first_46 (by decide) (fun c_2 => ?_) (fun c_2 => ?_)
    · refine lv_iconst (v := 0) hx hb dX7_first_53 (by decide) ?_
      exact jb c_2
    · refine lv_iconst (v := 4) hx hb dX7_first_49 (by decide) ?_
      refine lv_goto (tgt := 54) hx hb dX7_first_50 (by decide) ?_
      exact ja c_2
  refine kr_iastN hx hb hK hP hD hS 5 0 (by decide) (fun _ => R_5 _ _ _ _) rfl (j := 0) (by decide) (by decide) dX7_first_54 (fun H locs hP hD hS => ?_)
  refine lv_aload_n hx hb dX7_first_55 rfl (lv_at hl 1 rfl) ?_
  refine kr_get (C := "MonitorWaysModel") (T := TX7) (N := 27) hx hb hts hin_X7 hown hK hP 0 (by decide) (R_0 _ _ _ _) rfl 9 (by decide) lk_f35 (fun _ h9 => h9) rfl dX7_first_56 ?_
  refine lv_iload_n hx hb dX7_first_59 rfl (lv_at hl 0 rfl) ?_
  refine lv_aload_n hx hb dX7_first_60 rfl (lv_at hl 1 rfl) ?_
  refine kr_get (C := "MonitorWaysModel") (T := TX7) (N := 27) hx hb hts hin_X7 hown hK hP 0 (by decide) (R_0 _ _ _ _) rfl 10 (by decide) lk_f39 (fun _ h9 => h9) rfl dX7_first_61 ?_
  refine lv_iload_n hx hb dX7_first_64 rfl (lv_at hl 0 rfl) ?_
  refine lv_aload_n hx hb dX7_first_65 rfl (lv_at hl 1 rfl) ?_
  refine kr_get (C := "MonitorWaysModel") (T := TX7) (N := 27) hx hb hts hin_X7 hown hK hP 0 (by decide) (R_0 _ _ _ _) rfl 11 (by decide) lk_f42 (fun _ h9 => h9) rfl dX7_first_66 ?_
  refine lv_iload_n hx hb dX7_first_69 rfl (lv_at hl 0 rfl) ?_
  refine lv_iconst (v := 0) hx hb dX7_first_70 (by decide) ?_
  refine lv_dup_x2 hx hb dX7_first_71 rfl rfl rfl ?_
  refine kr_zastN hx hb hK hP hD hS 11 1 (by decide) (fun _ => R_11 _ _ _ _) rfl (j := 0) (by decide) (by decide) (by decide) dX7_first_72 (fun H locs hP hD hS => ?_)
  refine lv_dup_x2 hx hb dX7_first_73 rfl rfl rfl ?_
  refine kr_zastN hx hb hK hP hD hS 10 1 (by decide) (fun _ => R_10 _ _ _ _) rfl (j := 0) (by decide) (by decide) (by decide) dX7_first_74 (fun H locs hP hD hS => ?_)
  refine kr_zastN hx hb hK hP hD hS 9 1 (by decide) (fun _ => R_9 _ _ _ _) rfl (j := 0) (by decide) (by decide) (by decide) dX7_first_75 (fun H locs hP hD hS => ?_)
  refine lv_iinc (v := 1) (lv' := [(1, .int 1), (0, .ref (ad 0))]) hx hb dX7_first_76 hl (k := 0) rfl (by decide) (by decide) rfl (fun ls hl => ?_)
  refine lv_goto (tgt := 2) hx hb dX7_first_79 (by decide) ?_
  refine lv_iload_n hx hb dX7_first_2 rfl (lv_at hl 0 rfl) ?_
  refine lv_iconst (v := 4) hx hb dX7_first_3 (by decide) ?_
  refine lv_icmp_ge (tgt := 82) hx hb dX7_first_4 (by decide) (fun c_3 => absurd c_3 (by decide)) (fun c_3 => ?_)
  refine lv_aload_n hx hb dX7_first_7 rfl (lv_at hl 1 rfl) ?_
  refine kr_get (C := "MonitorWaysModel") (T := TX7) (N := 27) hx hb hts hin_X7 hown hK hP 0 (by decide) (R_0 _ _ _ _) rfl 4 (by decide) lk_f19 (fun _ h9 => h9) rfl dX7_first_8 ?_
  refine lv_iload_n hx hb dX7_first_11 rfl (lv_at hl 0 rfl) ?_
  refine lv_aload_n hx hb dX7_first_12 rfl (lv_at hl 1 rfl) ?_
  refine kr_get (C := "MonitorWaysModel") (T := TX7) (N := 27) hx hb hts hin_X7 hown hK hP 0 (by decide) (R_0 _ _ _ _) rfl 6 (by decide) lk_f25 (fun _ h9 => h9) rfl dX7_first_13 ?_
  refine lv_iload_n hx hb dX7_first_16 rfl (lv_at hl 0 rfl) ?_
  refine lv_aload_n hx hb dX7_first_17 rfl (lv_at hl 1 rfl) ?_
  refine kr_get (C := "MonitorWaysModel") (T := TX7) (N := 27) hx hb hts hin_X7 hown hK hP 0 (by decide) (R_0 _ _ _ _) rfl 7 (by decide) lk_f28 (fun _ h9 => h9) rfl dX7_first_18 ?_
  refine lv_iload_n hx hb dX7_first_21 rfl (lv_at hl 0 rfl) ?_
  refine lv_iconst (v := 0) hx hb dX7_first_22 (by decide) ?_
  refine lv_dup_x2 hx hb dX7_first_23 rfl rfl rfl ?_
  refine kr_iastN hx hb hK hP hD hS 7 0 (by decide) (fun _ => R_7 _ _ _ _) rfl (j := 1) (by decide) (by decide) dX7_first_24 (fun H locs hP hD hS => ?_)
  refine lv_dup_x2 hx hb dX7_first_25 rfl rfl rfl ?_
  refine kr_iastN hx hb hK hP hD hS 6 0 (by decide) (fun _ => R_6 _ _ _ _) rfl (j := 1) (by decide) (by decide) dX7_first_26 (fun H locs hP hD hS => ?_)
  refine kr_iastN hx hb hK hP hD hS 4 0 (by decide) (fun _ => R_4 _ _ _ _) rfl (j := 1) (by decide) (by decide) dX7_first_27 (fun H locs hP hD hS => ?_)
  refine lv_aload_n hx hb dX7_first_28 rfl (lv_at hl 1 rfl) ?_
  refine kr_get (C := "MonitorWaysModel") (T := TX7) (N := 27) hx hb hts hin_X7 hown hK hP 0 (by decide) (R_0 _ _ _ _) rfl 8 (by decide) lk_f31 (fun _ h9 => h9) rfl dX7_first_29 ?_
  refine lv_iload_n hx hb dX7_first_32 rfl (lv_at hl 0 rfl) ?_
  refine lv_lconst (v := 0) hx hb dX7_first_33 (by decide) ?_
  refine kr_lastN hx hb hK hP hD hS 8 2 (by decide) (fun _ => R_8 _ _ _ _) rfl (j := 1) (by decide) (by decide) dX7_first_34 (fun H locs hP hD hS => ?_)
  refine lv_aload_n hx hb dX7_first_35 rfl (lv_at hl 1 rfl) ?_
  refine kr_get (C := "MonitorWaysModel") (T := TX7) (N := 27) hx hb hts hin_X7 hown hK hP 0 (by decide) (R_0 _ _ _ _) rfl 5 (by decide) lk_f22 (fun _ h9 => h9) rfl dX7_first_36 ?_
  refine lv_iload_n hx hb dX7_first_39 rfl (lv_at hl 0 rfl) ?_
  refine lv_aload_n hx hb dX7_first_40 rfl (lv_at hl 1 rfl) ?_
  refine kr_get (C := "MonitorWaysModel") (T := TX7) (N := 27) hx hb hts hin_X7 hown hK hP 0 (by decide) (R_0 _ _ _ _) rfl 3 (by decide) lk_f16 (fun _ h9 => h9) rfl dX7_first_41 ?_
  refine lv_iload_n hx hb dX7_first_44 rfl (lv_at hl 0 rfl) ?_
  refine kr_ialdN hx hb hK hP 3 0 (by decide) (R_3 _ _ _ _) rfl (j := 1) (by decide) (by decide) dX7_first_45 ?_
  refine kr_tern (M := 54) (cnd := (up2 (up2 (up2 (up2 (up2 (up2 (up2 (up2 (up2 (up2 iv 7 0 0) 6 0 0) 4 0 0) 5 0 (if (up2 (up2 (up2 iv 7 0 0) 6 0 0) 4 0 0) 3 0 = 0 then (4 : Int32) else 0)) 11 0 0) 10 0 0) 9 0 0) 7 1 0) 6 1 0) 4 1 0) 3 1 = 0) (a := 4) (b := 0) (rest := [.int 1, .ref (ad 5)]) (fun ja jb => ?_) ?_
  · refine lv_if_ne (tgt := 53) hx hb dX7_first_46 (by decide) (fun c_4 => ?_) (fun c_4 => ?_)
    · refine lv_iconst (v := 0) hx hb dX7_first_53 (by decide) ?_
      exact jb c_4
    · refine lv_iconst (v := 4) hx hb dX7_first_49 (by decide) ?_
      refine lv_goto (tgt := 54) hx hb dX7_first_50 (by decide) ?_
      exact ja c_4
  refine kr_iastN hx hb hK hP hD hS 5 0 (by decide) (fun _ => R_5 _ _ _ _) rfl (j := 1) (by decide) (by decide) dX7_first_54 (fun H locs hP hD hS => ?_)
  refine lv_aload_n hx hb dX7_first_55 rfl (lv_at hl 1 rfl) ?_
  refine kr_get (C := "MonitorWaysModel") (T := TX7) (N := 27) hx hb hts hin_X7 hown hK hP 0 (by decide) (R_0 _ _ _ _) rfl 9 (by decide) lk_f35 (fun _ h9 => h9) rfl dX7_first_56 ?_
  refine lv_iload_n hx hb dX7_first_59 rfl (lv_at hl 0 rfl) ?_
  refine lv_aload_n hx hb dX7_first_60 rfl (lv_at hl 1 rfl) ?_
  refine kr_get (C := "MonitorWaysModel") (T := TX7) (N := 27) hx hb hts hin_X7 hown hK hP 0 (by decide) (R_0 _ _ _ _) rfl 10 (by decide) lk_f39 (fun _ h9 => h9) rfl dX7_first_61 ?_
  refine lv_iload_n hx hb dX7_first_64 rfl (lv_at hl 0 rfl) ?_
  refine lv_aload_n hx hb dX7_first_65 rfl (lv_at hl 1 rfl) ?_
  refine kr_get (C := "MonitorWaysModel") (T := TX7) (N := 27) hx hb hts hin_X7 hown hK hP 0 (by decide) (R_0 _ _ _ _) rfl 11 (by decide) lk_f42 (fun _ h9 => h9) rfl dX7_first_66 ?_
  refine lv_iload_n hx hb dX7_first_69 rfl (lv_at hl 0 rfl) ?_
  refine lv_iconst (v := 0) hx hb dX7_first_70 (by decide) ?_
  refine lv_dup_x2 hx hb dX7_first_71 rfl rfl rfl ?_
  refine kr_zastN hx hb hK hP hD hS 11 1 (by decide) (fun _ => R_11 _ _ _ _) rfl (j := 1) (by decide) (by decide) (by decide) dX7_first_72 (fun H locs hP hD hS => ?_)
  refine lv_dup_x2 hx hb dX7_first_73 rfl rfl rfl ?_
  refine kr_zastN hx hb hK hP hD hS 10 1 (by decide) (fun _ => R_10 _ _ _ _) rfl (j := 1) (by decide) (by decide) (by decide) dX7_first_74 (fun H locs hP hD hS => ?_)
  refine kr_zastN hx hb hK hP hD hS 9 1 (by decide) (fun _ => R_9 _ _ _ _) rfl (j := 1) (by decide) (by decide) (by decide) dX7_first_75 (fun H locs hP hD hS => ?_)
  refine lv_iinc (v := 2) (lv' := [(1, .int 2), (0, .ref (ad 0))]) hx hb dX7_first_76 hl (k := 0) rfl (by decide) (by decide) rfl (fun ls hl => ?_)
  refine lv_goto (tgt := 2) hx hb dX7_first_79 (by decide) ?_
  refine lv_iload_n hx hb dX7_first_2 rfl (lv_at hl 0 rfl) ?_
  refine lv_iconst (v := 4) hx hb dX7_first_3 (by decide) ?_
  refine lv_icmp_ge (tgt := 82) hx hb dX7_first_4 (by decide) (fun c_5 => absurd c_5 (by decide)) (fun c_5 => ?_)
  refine lv_aload_n hx hb dX7_first_7 rfl (lv_at hl 1 rfl) ?_
  refine kr_get (C := "MonitorWaysModel") (T := TX7) (N := 27) hx hb hts hin_X7 hown hK hP 0 (by decide) (R_0 _ _ _ _) rfl 4 (by decide) lk_f19 (fun _ h9 => h9) rfl dX7_first_8 ?_
  refine lv_iload_n hx hb dX7_first_11 rfl (lv_at hl 0 rfl) ?_
  refine lv_aload_n hx hb dX7_first_12 rfl (lv_at hl 1 rfl) ?_
  refine kr_get (C := "MonitorWaysModel") (T := TX7) (N := 27) hx hb hts hin_X7 hown hK hP 0 (by decide) (R_0 _ _ _ _) rfl 6 (by decide) lk_f25 (fun _ h9 => h9) rfl dX7_first_13 ?_
  refine lv_iload_n hx hb dX7_first_16 rfl (lv_at hl 0 rfl) ?_
  refine lv_aload_n hx hb dX7_first_17 rfl (lv_at hl 1 rfl) ?_
  refine kr_get (C := "MonitorWaysModel") (T := TX7) (N := 27) hx hb hts hin_X7 hown hK hP 0 (by decide) (R_0 _ _ _ _) rfl 7 (by decide) lk_f28 (fun _ h9 => h9) rfl dX7_first_18 ?_
  refine lv_iload_n hx hb dX7_first_21 rfl (lv_at hl 0 rfl) ?_
  refine lv_iconst (v := 0) hx hb dX7_first_22 (by decide) ?_
  refine lv_dup_x2 hx hb dX7_first_23 rfl rfl rfl ?_
  refine kr_iastN hx hb hK hP hD hS 7 0 (by decide) (fun _ => R_7 _ _ _ _) rfl (j := 2) (by decide) (by decide) dX7_first_24 (fun H locs hP hD hS => ?_)
  refine lv_dup_x2 hx hb dX7_first_25 rfl rfl rfl ?_
  refine kr_iastN hx hb hK hP hD hS 6 0 (by decide) (fun _ => R_6 _ _ _ _) rfl (j := 2) (by decide) (by decide) dX7_first_26 (fun H locs hP hD hS => ?_)
  refine kr_iastN hx hb hK hP hD hS 4 0 (by decide) (fun _ => R_4 _ _ _ _) rfl (j := 2) (by decide) (by decide) dX7_first_27 (fun H locs hP hD hS => ?_)
  refine lv_aload_n hx hb dX7_first_28 rfl (lv_at hl 1 rfl) ?_
  refine kr_get (C := "MonitorWaysModel") (T := TX7) (N := 27) hx hb hts hin_X7 hown hK hP 0 (by decide) (R_0 _ _ _ _) rfl 8 (by decide) lk_f31 (fun _ h9 => h9) rfl dX7_first_29 ?_
  refine lv_iload_n hx hb dX7_first_32 rfl (lv_at hl 0 rfl) ?_
  refine lv_lconst (v := 0) hx hb dX7_first_33 (by decide) ?_
  refine kr_lastN hx hb hK hP hD hS 8 2 (by decide) (fun _ => R_8 _ _ _ _) rfl (j := 2) (by decide) (by decide) dX7_first_34 (fun H locs hP hD hS => ?_)
  refine lv_aload_n hx hb dX7_first_35 rfl (lv_at hl 1 rfl) ?_
  refine kr_get (C := "MonitorWaysModel") (T := TX7) (N := 27) hx hb hts hin_X7 hown hK hP 0 (by decide) (R_0 _ _ _ _) rfl 5 (by decide) lk_f22 (fun _ h9 => h9) rfl dX7_first_36 ?_
  refine lv_iload_n hx hb dX7_first_39 rfl (lv_at hl 0 rfl) ?_
  refine lv_aload_n hx hb dX7_first_40 rfl (lv_at hl 1 rfl) ?_
  refine kr_get (C := "MonitorWaysModel") (T := TX7) (N := 27) hx hb hts hin_X7 hown hK hP 0 (by decide) (R_0 _ _ _ _) rfl 3 (by decide) lk_f16 (fun _ h9 => h9) rfl dX7_first_41 ?_
  refine lv_iload_n hx hb dX7_first_44 rfl (lv_at hl 0 rfl) ?_
  refine kr_ialdN hx hb hK hP 3 0 (by decide) (R_3 _ _ _ _) rfl (j := 2) (by decide) (by decide) dX7_first_45 ?_
  refine kr_tern (M := 54) (cnd := (up2 (up2 (up2 (up2 (up2 (up2 (up2 (up2 (up2 (up2 (up2 (up2 (up2 (up2 (up2 (up2 (up2 iv 7 0 0) 6 0 0) 4 0 0) 5 0 (if (up2 (up2 (up2 iv 7 0 0) 6 0 0) 4 0 0) 3 0 = 0 then (4 : Int32) else 0)) 11 0 0) 10 0 0) 9 0 0) 7 1 0) 6 1 0) 4 1 0) 5 1 (if (up2 (up2 (up2 (up2 (up2 (up2 (up2 (up2 (up2 (up2 iv 7 0 0) 6 0 0) 4 0 0) 5 0 (if (up2 (up2 (up2 iv 7 0 0) 6 0 0) 4 0 0) 3 0 = 0 then (4 : Int32) else 0)) 11 0 0) 10 0 0) 9 0 0) 7 1 0) 6 1 0) 4 1 0) 3 1 = 0 then (4 : Int32) else 0)) 11 1 0) 10 1 0) 9 1 0) 7 2 0) 6 2 0) 4 2 0) 3 2 = 0) (a := 4) (b := 0) (rest := [.int 2, .ref (ad 5)]) (fun ja jb => ?_) ?_
  · refine lv_if_ne (tgt := 53) hx hb dX7_first_46 (by decide) (fun c_6 => ?_) (fun c_6 => ?_)
    · refine lv_iconst (v := 0) hx hb dX7_first_53 (by decide) ?_
      exact jb c_6
    · refine lv_iconst (v := 4) hx hb dX7_first_49 (by decide) ?_
      refine lv_goto (tgt := 54) hx hb dX7_first_50 (by decide) ?_
      exact ja c_6
  refine kr_iastN hx hb hK hP hD hS 5 0 (by decide) (fun _ => R_5 _ _ _ _) rfl (j := 2) (by decide) (by decide) dX7_first_54 (fun H locs hP hD hS => ?_)
  refine lv_aload_n hx hb dX7_first_55 rfl (lv_at hl 1 rfl) ?_
  refine kr_get (C := "MonitorWaysModel") (T := TX7) (N := 27) hx hb hts hin_X7 hown hK hP 0 (by decide) (R_0 _ _ _ _) rfl 9 (by decide) lk_f35 (fun _ h9 => h9) rfl dX7_first_56 ?_
  refine lv_iload_n hx hb dX7_first_59 rfl (lv_at hl 0 rfl) ?_
  refine lv_aload_n hx hb dX7_first_60 rfl (lv_at hl 1 rfl) ?_
  refine kr_get (C := "MonitorWaysModel") (T := TX7) (N := 27) hx hb hts hin_X7 hown hK hP 0 (by decide) (R_0 _ _ _ _) rfl 10 (by decide) lk_f39 (fun _ h9 => h9) rfl dX7_first_61 ?_
  refine lv_iload_n hx hb dX7_first_64 rfl (lv_at hl 0 rfl) ?_
  refine lv_aload_n hx hb dX7_first_65 rfl (lv_at hl 1 rfl) ?_
  refine kr_get (C := "MonitorWaysModel") (T := TX7) (N := 27) hx hb hts hin_X7 hown hK hP 0 (by decide) (R_0 _ _ _ _) rfl 11 (by decide) lk_f42 (fun _ h9 => h9) rfl dX7_first_66 ?_
  refine lv_iload_n hx hb dX7_first_69 rfl (lv_at hl 0 rfl) ?_
  refine lv_iconst (v := 0) hx hb dX7_first_70 (by decide) ?_
  refine lv_dup_x2 hx hb dX7_first_71 rfl rfl rfl ?_
  refine kr_zastN hx hb hK hP hD hS 11 1 (by decide) (fun _ => R_11 _ _ _ _) rfl (j := 2) (by decide) (by decide) (by decide) dX7_first_72 (fun H locs hP hD hS => ?_)
  refine lv_dup_x2 hx hb dX7_first_73 rfl rfl rfl ?_
  refine kr_zastN hx hb hK hP hD hS 10 1 (by decide) (fun _ => R_10 _ _ _ _) rfl (j := 2) (by decide) (by decide) (by decide) dX7_first_74 (fun H locs hP hD hS => ?_)
  refine kr_zastN hx hb hK hP hD hS 9 1 (by decide) (fun _ => R_9 _ _ _ _) rfl (j := 2) (by decide) (by decide) (by decide) dX7_first_75 (fun H locs hP hD hS => ?_)
  refine lv_iinc (v := 3) (lv' := [(1, .int 3), (0, .ref (ad 0))]) hx hb dX7_first_76 hl (k := 0) rfl (by decide) (by decide) rfl (fun ls hl => ?_)
  refine lv_goto (tgt := 2) hx hb dX7_first_79 (by decide) ?_
  refine lv_iload_n hx hb dX7_first_2 rfl (lv_at hl 0 rfl) ?_
  refine lv_iconst (v := 4) hx hb dX7_first_3 (by decide) ?_
  refine lv_icmp_ge (tgt := 82) hx hb dX7_first_4 (by decide) (fun c_7 => absurd c_7 (by decide)) (fun c_7 => ?_)
  refine lv_aload_n hx hb dX7_first_7 rfl (lv_at hl 1 rfl) ?_
  refine kr_get (C := "MonitorWaysModel") (T := TX7) (N := 27) hx hb hts hin_X7 hown hK hP 0 (by decide) (R_0 _ _ _ _) rfl 4 (by decide) lk_f19 (fun _ h9 => h9) rfl dX7_first_8 ?_
  refine lv_iload_n hx hb dX7_first_11 rfl (lv_at hl 0 rfl) ?_
  refine lv_aload_n hx hb dX7_first_12 rfl (lv_at hl 1 rfl) ?_
  refine kr_get (C := "MonitorWaysModel") (T := TX7) (N := 27) hx hb hts hin_X7 hown hK hP 0 (by decide) (R_0 _ _ _ _) rfl 6 (by decide) lk_f25 (fun _ h9 => h9) rfl dX7_first_13 ?_
  refine lv_iload_n hx hb dX7_first_16 rfl (lv_at hl 0 rfl) ?_
  refine lv_aload_n hx hb dX7_first_17 rfl (lv_at hl 1 rfl) ?_
  refine kr_get (C := "MonitorWaysModel") (T := TX7) (N := 27) hx hb hts hin_X7 hown hK hP 0 (by decide) (R_0 _ _ _ _) rfl 7 (by decide) lk_f28 (fun _ h9 => h9) rfl dX7_first_18 ?_
  refine lv_iload_n hx hb dX7_first_21 rfl (lv_at hl 0 rfl) ?_
  refine lv_iconst (v := 0) hx hb dX7_first_22 (by decide) ?_
  refine lv_dup_x2 hx hb dX7_first_23 rfl rfl rfl ?_
  refine kr_iastN hx hb hK hP hD hS 7 0 (by decide) (fun _ => R_7 _ _ _ _) rfl (j := 3) (by decide) (by decide) dX7_first_24 (fun H locs hP hD hS => ?_)
  refine lv_dup_x2 hx hb dX7_first_25 rfl rfl rfl ?_
  refine kr_iastN hx hb hK hP hD hS 6 0 (by decide) (fun _ => R_6 _ _ _ _) rfl (j := 3) (by decide) (by decide) dX7_first_26 (fun H locs hP hD hS => ?_)
  refine kr_iastN hx hb hK hP hD hS 4 0 (by decide) (fun _ => R_4 _ _ _ _) rfl (j := 3) (by decide) (by decide) dX7_first_27 (fun H locs hP hD hS => ?_)
  refine lv_aload_n hx hb dX7_first_28 rfl (lv_at hl 1 rfl) ?_
  refine kr_get (C := "MonitorWaysModel") (T := TX7) (N := 27) hx hb hts hin_X7 hown hK hP 0 (by decide) (R_0 _ _ _ _) rfl 8 (by decide) lk_f31 (fun _ h9 => h9) rfl dX7_first_29 ?_
  refine lv_iload_n hx hb dX7_first_32 rfl (lv_at hl 0 rfl) ?_
  refine lv_lconst (v := 0) hx hb dX7_first_33 (by decide) ?_
  refine kr_lastN hx hb hK hP hD hS 8 2 (by decide) (fun _ => R_8 _ _ _ _) rfl (j := 3) (by decide) (by decide) dX7_first_34 (fun H locs hP hD hS => ?_)
  refine lv_aload_n hx hb dX7_first_35 rfl (lv_at hl 1 rfl) ?_
  refine kr_get (C := "MonitorWaysModel") (T := TX7) (N := 27) hx hb hts hin_X7 hown hK hP 0 (by decide) (R_0 _ _ _ _) rfl 5 (by decide) lk_f22 (fun _ h9 => h9) rfl dX7_first_36 ?_
  refine lv_iload_n hx hb dX7_first_39 rfl (lv_at hl 0 rfl) ?_
  refine lv_aload_n hx hb dX7_first_40 rfl (lv_at hl 1 rfl) ?_
  refine kr_get (C := "MonitorWaysModel") (T := TX7) (N := 27) hx hb hts hin_X7 hown hK hP 0 (by decide) (R_0 _ _ _ _) rfl 3 (by decide) lk_f16 (fun _ h9 => h9) rfl dX7_first_41 ?_
  refine lv_iload_n hx hb dX7_first_44 rfl (lv_at hl 0 rfl) ?_
  refine kr_ialdN hx hb hK hP 3 0 (by decide) (R_3 _ _ _ _) rfl (j := 3) (by decide) (by decide) dX7_first_45 ?_
  refine kr_tern (M := 54) (cnd := (up2 (up2 (up2 (up2 (up2 (up2 (up2 (up2 (up2 (up2 (up2 (up2 (up2 (up2 (up2 (up2 (up2 (up2 (up2 (up2 (up2 (up2 (up2 (up2 iv 7 0 0) 6 0 0) 4 0 0) 5 0 (if (up2 (up2 (up2 iv 7 0 0) 6 0 0) 4 0 0) 3 0 = 0 then (4 : Int32) else 0)) 11 0 0) 10 0 0) 9 0 0) 7 1 0) 6 1 0) 4 1 0) 5 1 (if (up2 (up2 (up2 (up2 (up2 (up2 (up2 (up2 (up2 (up2 iv 7 0 0) 6 0 0) 4 0 0) 5 0 (if (up2 (up2 (up2 iv 7 0 0) 6 0 0) 4 0 0) 3 0 = 0 then (4 : Int32) else 0)) 11 0 0) 10 0 0) 9 0 0) 7 1 0) 6 1 0) 4 1 0) 3 1 = 0 then (4 : Int32) else 0)) 11 1 0) 10 1 0) 9 1 0) 7 2 0) 6 2 0) 4 2 0) 5 2 (if (up2 (up2 (up2 (up2 (up2 (up2 (up2 (up2 (up2 (up2 (up2 (up2 (up2 (up2 (up2 (up2 (up2 iv 7 0 0) 6 0 0) 4 0 0) 5 0 (if (up2 (up2 (up2 iv 7 0 0) 6 0 0) 4 0 0) 3 0 = 0 then (4 : Int32) else 0)) 11 0 0) 10 0 0) 9 0 0) 7 1 0) 6 1 0) 4 1 0) 5 1 (if (up2 (up2 (up2 (up2 (up2 (up2 (up2 (up2 (up2 (up2 iv 7 0 0) 6 0 0) 4 0 0) 5 0 (if (up2 (up2 (up2 iv 7 0 0) 6 0 0) 4 0 0) 3 0 = 0 then (4 : Int32) else 0)) 11 0 0) 10 0 0) 9 0 0) 7 1 0) 6 1 0) 4 1 0) 3 1 = 0 then (4 : Int32) else 0)) 11 1 0) 10 1 0) 9 1 0) 7 2 0) 6 2 0) 4 2 0) 3 2 = 0 then (4 : Int32) else 0)) 11 2 0) 10 2 0) 9 2 0) 7 3 0) 6 3 0) 4 3 0) 3 3 = 0) (a := 4) (b := 0) (rest := [.int 3, .ref (ad 5)]) (fun ja jb => ?_) ?_
  · refine lv_if_ne (tgt := 53) hx hb dX7_first_46 (by decide) (fun c_8 => ?_) (fun c_8 => ?_)
    · refine lv_iconst (v := 0) hx hb dX7_first_53 (by decide) ?_
      exact jb c_8
    · refine lv_iconst (v := 4) hx hb dX7_first_49 (by decide) ?_
      refine lv_goto (tgt := 54) hx hb dX7_first_50 (by decide) ?_
      exact ja c_8
  refine kr_iastN hx hb hK hP hD hS 5 0 (by decide) (fun _ => R_5 _ _ _ _) rfl (j := 3) (by decide) (by decide) dX7_first_54 (fun H locs hP hD hS => ?_)
  refine lv_aload_n hx hb dX7_first_55 rfl (lv_at hl 1 rfl) ?_
  refine kr_get (C := "MonitorWaysModel") (T := TX7) (N := 27) hx hb hts hin_X7 hown hK hP 0 (by decide) (R_0 _ _ _ _) rfl 9 (by decide) lk_f35 (fun _ h9 => h9) rfl dX7_first_56 ?_
  refine lv_iload_n hx hb dX7_first_59 rfl (lv_at hl 0 rfl) ?_
  refine lv_aload_n hx hb dX7_first_60 rfl (lv_at hl 1 rfl) ?_
  refine kr_get (C := "MonitorWaysModel") (T := TX7) (N := 27) hx hb hts hin_X7 hown hK hP 0 (by decide) (R_0 _ _ _ _) rfl 10 (by decide) lk_f39 (fun _ h9 => h9) rfl dX7_first_61 ?_
  refine lv_iload_n hx hb dX7_first_64 rfl (lv_at hl 0 rfl) ?_
  refine lv_aload_n hx hb dX7_first_65 rfl (lv_at hl 1 rfl) ?_
  refine kr_get (C := "MonitorWaysModel") (T := TX7) (N := 27) hx hb hts hin_X7 hown hK hP 0 (by decide) (R_0 _ _ _ _) rfl 11 (by decide) lk_f42 (fun _ h9 => h9) rfl dX7_first_66 ?_
  refine lv_iload_n hx hb dX7_first_69 rfl (lv_at hl 0 rfl) ?_
  refine lv_iconst (v := 0) hx hb dX7_first_70 (by decide) ?_
  refine lv_dup_x2 hx hb dX7_first_71 rfl rfl rfl ?_
  refine kr_zastN hx hb hK hP hD hS 11 1 (by decide) (fun _ => R_11 _ _ _ _) rfl (j := 3) (by decide) (by decide) (by decide) dX7_first_72 (fun H locs hP hD hS => ?_)
  refine lv_dup_x2 hx hb dX7_first_73 rfl rfl rfl ?_
  refine kr_zastN hx hb hK hP hD hS 10 1 (by decide) (fun _ => R_10 _ _ _ _) rfl (j := 3) (by decide) (by decide) (by decide) dX7_first_74 (fun H locs hP hD hS => ?_)
  refine kr_zastN hx hb hK hP hD hS 9 1 (by decide) (fun _ => R_9 _ _ _ _) rfl (j := 3) (by decide) (by decide) (by decide) dX7_first_75 (fun H locs hP hD hS => ?_)
  refine lv_iinc (v := 4) (lv' := [(1, .int 4), (0, .ref (ad 0))]) hx hb dX7_first_76 hl (k := 0) rfl (by decide) (by decide) rfl (fun ls hl => ?_)
  refine lv_goto (tgt := 2) hx hb dX7_first_79 (by decide) ?_
  refine lv_iload_n hx hb dX7_first_2 rfl (lv_at hl 0 rfl) ?_
  refine lv_iconst (v := 4) hx hb dX7_first_3 (by decide) ?_
  refine lv_icmp_ge (tgt := 82) hx hb dX7_first_4 (by decide) (fun c_9 => ?_) (fun c_9 => absurd (by decide) c_9)
  refine lv_iconst (v := 0) hx hb dX7_first_82 (by decide) ?_
  refine lv_istore_n (lv' := [(1, .int 0), (0, .ref (ad 0))]) hx hb dX7_first_83 rfl hl (by decide) rfl (fun ls hl => ?_)
  refine lv_iload_n hx hb dX7_first_84 rfl (lv_at hl 0 rfl) ?_
  refine lv_iconst (v := 2) hx hb dX7_first_85 (by decide) ?_
  refine lv_icmp_ge (tgt := 116) hx hb dX7_first_86 (by decide) (fun c_10 => absurd c_10 (by decide)) (fun c_10 => ?_)
  refine lv_aload_n hx hb dX7_first_89 rfl (lv_at hl 1 rfl) ?_
  refine kr_get (C := "MonitorWaysModel") (T := TX7) (N := 27) hx hb hts hin_X7 hown hK hP 0 (by decide) (R_0 _ _ _ _) rfl 12 (by decide) lk_f45 (fun _ h9 => h9) rfl dX7_first_90 ?_
  refine lv_iload_n hx hb dX7_first_93 rfl (lv_at hl 0 rfl) ?_
  refine lv_iconst (v := (-1)) hx hb dX7_first_94 (by decide) ?_
  refine kr_iastN hx hb hK hP hD hS 12 0 (by decide) (fun _ => R_12 _ _ _ _) rfl (j := 0) (by decide) (by decide) dX7_first_95 (fun H locs hP hD hS => ?_)
  refine lv_aload_n hx hb dX7_first_96 rfl (lv_at hl 1 rfl) ?_
  refine kr_get (C := "MonitorWaysModel") (T := TX7) (N := 27) hx hb hts hin_X7 hown hK hP 0 (by decide) (R_0 _ _ _ _) rfl 13 (by decide) lk_f48 (fun _ h9 => h9) rfl dX7_first_97 ?_
  refine lv_iload_n hx hb dX7_first_100 rfl (lv_at hl 0 rfl) ?_
  refine lv_aload_n hx hb dX7_first_101 rfl (lv_at hl 1 rfl) ?_
  refine kr_get (C := "MonitorWaysModel") (T := TX7) (N := 27) hx hb hts hin_X7 hown hK hP 0 (by decide) (R_0 _ _ _ _) rfl 14 (by decide) lk_f51 (fun _ h9 => h9) rfl dX7_first_102 ?_
  refine lv_iload_n hx hb dX7_first_105 rfl (lv_at hl 0 rfl) ?_
  refine lv_iconst (v := 0) hx hb dX7_first_106 (by decide) ?_
  refine lv_dup_x2 hx hb dX7_first_107 rfl rfl rfl ?_
  refine kr_iastN hx hb hK hP hD hS 14 0 (by decide) (fun _ => R_14 _ _ _ _) rfl (j := 0) (by decide) (by decide) dX7_first_108 (fun H locs hP hD hS => ?_)
  refine kr_iastN hx hb hK hP hD hS 13 0 (by decide) (fun _ => R_13 _ _ _ _) rfl (j := 0) (by decide) (by decide) dX7_first_109 (fun H locs hP hD hS => ?_)
  refine lv_iinc (v := 1) (lv' := [(1, .int 1), (0, .ref (ad 0))]) hx hb dX7_first_110 hl (k := 0) rfl (by decide) (by decide) rfl (fun ls hl => ?_)
  refine lv_goto (tgt := 84) hx hb dX7_first_113 (by decide) ?_
  refine lv_iload_n hx hb dX7_first_84 rfl (lv_at hl 0 rfl) ?_
  refine lv_iconst (v := 2) hx hb dX7_first_85 (by decide) ?_
  refine lv_icmp_ge (tgt := 116) hx hb dX7_first_86 (by decide) (fun c_11 => absurd c_11 (by decide)) (fun c_11 => ?_)
  refine lv_aload_n hx hb dX7_first_89 rfl (lv_at hl 1 rfl) ?_
  refine kr_get (C := "MonitorWaysModel") (T := TX7) (N := 27) hx hb hts hin_X7 hown hK hP 0 (by decide) (R_0 _ _ _ _) rfl 12 (by decide) lk_f45 (fun _ h9 => h9) rfl dX7_first_90 ?_
  refine lv_iload_n hx hb dX7_first_93 rfl (lv_at hl 0 rfl) ?_
  refine lv_iconst (v := (-1)) hx hb dX7_first_94 (by decide) ?_
  refine kr_iastN hx hb hK hP hD hS 12 0 (by decide) (fun _ => R_12 _ _ _ _) rfl (j := 1) (by decide) (by decide) dX7_first_95 (fun H locs hP hD hS => ?_)
  refine lv_aload_n hx hb dX7_first_96 rfl (lv_at hl 1 rfl) ?_
  refine kr_get (C := "MonitorWaysModel") (T := TX7) (N := 27) hx hb hts hin_X7 hown hK hP 0 (by decide) (R_0 _ _ _ _) rfl 13 (by decide) lk_f48 (fun _ h9 => h9) rfl dX7_first_97 ?_
  refine lv_iload_n hx hb dX7_first_100 rfl (lv_at hl 0 rfl) ?_
  refine lv_aload_n hx hb dX7_first_101 rfl (lv_at hl 1 rfl) ?_
  refine kr_get (C := "MonitorWaysModel") (T := TX7) (N := 27) hx hb hts hin_X7 hown hK hP 0 (by decide) (R_0 _ _ _ _) rfl 14 (by decide) lk_f51 (fun _ h9 => h9) rfl dX7_first_102 ?_
  refine lv_iload_n hx hb dX7_first_105 rfl (lv_at hl 0 rfl) ?_
  refine lv_iconst (v := 0) hx hb dX7_first_106 (by decide) ?_
  refine lv_dup_x2 hx hb dX7_first_107 rfl rfl rfl ?_
  refine kr_iastN hx hb hK hP hD hS 14 0 (by decide) (fun _ => R_14 _ _ _ _) rfl (j := 1) (by decide) (by decide) dX7_first_108 (fun H locs hP hD hS => ?_)
  refine kr_iastN hx hb hK hP hD hS 13 0 (by decide) (fun _ => R_13 _ _ _ _) rfl (j := 1) (by decide) (by decide) dX7_first_109 (fun H locs hP hD hS => ?_)
  refine lv_iinc (v := 2) (lv' := [(1, .int 2), (0, .ref (ad 0))]) hx hb dX7_first_110 hl (k := 0) rfl (by decide) (by decide) rfl (fun ls hl => ?_)
  refine lv_goto (tgt := 84) hx hb dX7_first_113 (by decide) ?_
  refine lv_iload_n hx hb dX7_first_84 rfl (lv_at hl 0 rfl) ?_
  refine lv_iconst (v := 2) hx hb dX7_first_85 (by decide) ?_
  refine lv_icmp_ge (tgt := 116) hx hb dX7_first_86 (by decide) (fun c_12 => ?_) (fun c_12 => absurd (by decide) c_12)
  exact kr_vret hx hb hr hlocks hK hP hD hS (mem4 rfl rfl) dX7_first_116
def r_oTpack (iv : Nat → Nat → Int32) (lv : Nat → Nat → Int64) (t : Nat) : Int64 := (((((((((((((lv 8 t) * 8) + ((iv 7 t).toInt64)) * 8) + ((iv 4 t).toInt64)) * 8) + ((iv 5 t).toInt64)) * 8) + ((iv 6 t).toInt64)) * 8) + ((if iv 9 t = 0 then (0 : Int32) else 1).toInt64)) + ((if iv 10 t = 0 then (0 : Int32) else 2).toInt64)) + ((if iv 11 t = 0 then (0 : Int32) else 4).toInt64))
set_option maxHeartbeats 4000000 in
set_option maxRecDepth 100000 in
theorem c_oTpack (l : Launch) (D : va_G) (gc : Nat → ClassId) (ad ln : Nat → Nat) (iv : Nat → Nat → Int32) (lv : Nat → Nat → Int64) (t : Nat) (ht : t < 4) : kMl l yX7_threadPacked wX7_threadPacked ({ frames := 0, cells := 0, slots := 0, locals := 0 }) D vwCl (kT gc) 20 (rE gc) [.ref (ad 0), .int (nI t)] (ad, ln, iv, lv) (ad, ln, iv, lv) (r_oTpack iv lv t) := by
  refine kl_start (cc := cX7_threadPacked) (maxL := 4) (ret := (some .long)) (by decide) rfl (Nat.le_of_ble_eq_true rfl) ?_
  intro p9 e9 s m9 below meth c9 A ls hx hb hr hts hown hlocks hml hA hK hP hD hS hl
  have hl : lv_has ls 4 [(0, .ref (ad 0)), (1, .int (nI t))] := hl
  have hown : s.vm.findClass "MonitorWaysModel" = some m9.cls := hown
  have hin_X7 : ∀ w ∈ u_ws "MonitorWaysModel" TX7 27, w ∈ wX7_threadPacked := fun w h => tcons (inX7 w h)
  have lk_f31 := hts _ (tcons tw_582)
  have lk_c77 := hts _ (tcons tw_572)
  have lk_f28 := hts _ (tcons tw_581)
  have lk_f19 := hts _ (tcons tw_578)
  have lk_f22 := hts _ (tcons tw_579)
  have lk_f25 := hts _ (tcons tw_580)
  have lk_f35 := hts _ (tcons tw_583)
  have lk_f39 := hts _ (tcons tw_584)
  have lk_f42 := hts _ (tcons tw_585)
  refine lv_aload_n hx hb dX7_threadPacked_0 rfl (lv_at hl 0 rfl) ?_
  refine kr_get (C := "MonitorWaysModel") (T := TX7) (N := 27) hx hb hts hin_X7 hown hK hP 0 (by decide) (R_0 _ _ _ _) rfl 8 (by decide) lk_f31 (fun _ h9 => h9) rfl dX7_threadPacked_1 ?_
  refine lv_iload_n hx hb dX7_threadPacked_4 rfl (lv_at hl 1 rfl) ?_
  refine kr_laldN hx hb hK hP 8 2 (by decide) (R_8 _ _ _ _) rfl (j := t) (by omega) (by decide) dX7_threadPacked_5 ?_
  refine lv_lstore_n (lv' := [(2, .long (lv 8 t)), (0, .ref (ad 0)), (1, .int (nI t))]) hx hb dX7_threadPacked_6 rfl hl (by decide) rfl (fun ls hl => ?_)
  refine lv_lload_n hx hb dX7_threadPacked_7 rfl (lv_at hl 0 rfl) ?_
  refine lv_ldc2 (v := 8) hx hb hown lk_c77 dX7_threadPacked_8 ?_
  refine lv_lmul hx hb dX7_threadPacked_11 ?_
  refine lv_aload_n hx hb dX7_threadPacked_12 rfl (lv_at hl 1 rfl) ?_
  refine kr_get (C := "MonitorWaysModel") (T := TX7) (N := 27) hx hb hts hin_X7 hown hK hP 0 (by decide) (R_0 _ _ _ _) rfl 7 (by decide) lk_f28 (fun _ h9 => h9) rfl dX7_threadPacked_13 ?_
  refine lv_iload_n hx hb dX7_threadPacked_16 rfl (lv_at hl 2 rfl) ?_
  refine kr_ialdN hx hb hK hP 7 0 (by decide) (R_7 _ _ _ _) rfl (j := t) (by omega) (by decide) dX7_threadPacked_17 ?_
  refine lv_i2l hx hb dX7_threadPacked_18 rfl ?_
  refine lv_ladd hx hb dX7_threadPacked_19 ?_
  refine lv_lstore_n (lv' := [(2, .long (((lv 8 t) * 8) + ((iv 7 t).toInt64))), (0, .ref (ad 0)), (1, .int (nI t))]) hx hb dX7_threadPacked_20 rfl hl (by decide) rfl (fun ls hl => ?_)
  refine lv_lload_n hx hb dX7_threadPacked_21 rfl (lv_at hl 0 rfl) ?_
  refine lv_ldc2 (v := 8) hx hb hown lk_c77 dX7_threadPacked_22 ?_
  refine lv_lmul hx hb dX7_threadPacked_25 ?_
  refine lv_aload_n hx hb dX7_threadPacked_26 rfl (lv_at hl 1 rfl) ?_
  refine kr_get (C := "MonitorWaysModel") (T := TX7) (N := 27) hx hb hts hin_X7 hown hK hP 0 (by decide) (R_0 _ _ _ _) rfl 4 (by decide) lk_f19 (fun _ h9 => h9) rfl dX7_threadPacked_27 ?_
  refine lv_iload_n hx hb dX7_threadPacked_30 rfl (lv_at hl 2 rfl) ?_
  refine kr_ialdN hx hb hK hP 4 0 (by decide) (R_4 _ _ _ _) rfl (j := t) (by omega) (by decide) dX7_threadPacked_31 ?_
  refine lv_i2l hx hb dX7_threadPacked_32 rfl ?_
  refine lv_ladd hx hb dX7_threadPacked_33 ?_
  refine lv_lstore_n (lv' := [(2, .long (((((lv 8 t) * 8) + ((iv 7 t).toInt64)) * 8) + ((iv 4 t).toInt64))), (0, .ref (ad 0)), (1, .int (nI t))]) hx hb dX7_threadPacked_34 rfl hl (by decide) rfl (fun ls hl => ?_)
  refine lv_lload_n hx hb dX7_threadPacked_35 rfl (lv_at hl 0 rfl) ?_
  refine lv_ldc2 (v := 8) hx hb hown lk_c77 dX7_threadPacked_36 ?_
  refine lv_lmul hx hb dX7_threadPacked_39 ?_
  refine lv_aload_n hx hb dX7_threadPacked_40 rfl (lv_at hl 1 rfl) ?_
  refine kr_get (C := "MonitorWaysModel") (T := TX7) (N := 27) hx hb hts hin_X7 hown hK hP 0 (by decide) (R_0 _ _ _ _) rfl 5 (by decide) lk_f22 (fun _ h9 => h9) rfl dX7_threadPacked_41 ?_
  refine lv_iload_n hx hb dX7_threadPacked_44 rfl (lv_at hl 2 rfl) ?_
  refine kr_ialdN hx hb hK hP 5 0 (by decide) (R_5 _ _ _ _) rfl (j := t) (by omega) (by decide) dX7_threadPacked_45 ?_
  refine lv_i2l hx hb dX7_threadPacked_46 rfl ?_
  refine lv_ladd hx hb dX7_threadPacked_47 ?_
  refine lv_lstore_n (lv' := [(2, .long (((((((lv 8 t) * 8) + ((iv 7 t).toInt64)) * 8) + ((iv 4 t).toInt64)) * 8) + ((iv 5 t).toInt64))), (0, .ref (ad 0)), (1, .int (nI t))]) hx hb dX7_threadPacked_48 rfl hl (by decide) rfl (fun ls hl => ?_)
  refine lv_lload_n hx hb dX7_threadPacked_49 rfl (lv_at hl 0 rfl) ?_
  refine lv_ldc2 (v := 8) hx hb hown lk_c77 dX7_threadPacked_50 ?_
  refine lv_lmul hx hb dX7_threadPacked_53 ?_
  refine lv_aload_n hx hb dX7_threadPacked_54 rfl (lv_at hl 1 rfl) ?_
  refine kr_get (C := "MonitorWaysModel") (T := TX7) (N := 27) hx hb hts hin_X7 hown hK hP 0 (by decide) (R_0 _ _ _ _) rfl 6 (by decide) lk_f25 (fun _ h9 => h9) rfl dX7_threadPacked_55 ?_
  refine lv_iload_n hx hb dX7_threadPacked_58 rfl (lv_at hl 2 rfl) ?_
  refine kr_ialdN hx hb hK hP 6 0 (by decide) (R_6 _ _ _ _) rfl (j := t) (by omega) (by decide) dX7_threadPacked_59 ?_
  refine lv_i2l hx hb dX7_threadPacked_60 rfl ?_
  refine lv_ladd hx hb dX7_threadPacked_61 ?_
  refine lv_lstore_n (lv' := [(2, .long (((((((((lv 8 t) * 8) + ((iv 7 t).toInt64)) * 8) + ((iv 4 t).toInt64)) * 8) + ((iv 5 t).toInt64)) * 8) + ((iv 6 t).toInt64))), (0, .ref (ad 0)), (1, .int (nI t))]) hx hb dX7_threadPacked_62 rfl hl (by decide) rfl (fun ls hl => ?_)
  refine lv_lload_n hx hb dX7_threadPacked_63 rfl (lv_at hl 0 rfl) ?_
  refine lv_ldc2 (v := 8) hx hb hown lk_c77 dX7_threadPacked_64 ?_
  refine lv_lmul hx hb dX7_threadPacked_67 ?_
  refine lv_aload_n hx hb dX7_threadPacked_68 rfl (lv_at hl 1 rfl) ?_
  refine kr_get (C := "MonitorWaysModel") (T := TX7) (N := 27) hx hb hts hin_X7 hown hK hP 0 (by decide) (R_0 _ _ _ _) rfl 9 (by decide) lk_f35 (fun _ h9 => h9) rfl dX7_threadPacked_69 ?_
  refine lv_iload_n hx hb dX7_threadPacked_72 rfl (lv_at hl 2 rfl) ?_
  refine kr_zaldN hx hb hK hP 9 1 (by decide) (R_9 _ _ _ _) rfl (j := t) (by omega) (by decide) dX7_threadPacked_73 ?_
  refine kr_tern (M := 82) (cnd := iv 9 t = 0) (a := 0) (b := 1) (rest := [.long ((((((((((lv 8 t) * 8) + ((iv 7 t).toInt64)) * 8) + ((iv 4 t).toInt64)) * 8) + ((iv 5 t).toInt64)) * 8) + ((iv 6 t).toInt64)) * 8)]) (fun ja jb => ?_) ?_
  · refine lv_if_eq (tgt := 81) hx hb dX7_threadPacked_74 (by decide) (fun c_1 => ?_) (fun c_1 => ?_)
    · refine lv_iconst (v := 0) hx hb dX7_threadPacked_81 (by decide) ?_
      exact ja c_1
    · refine lv_iconst (v := 1) hx hb dX7_threadPacked_77 (by decide) ?_
      refine lv_goto (tgt := 82) hx hb dX7_threadPacked_78 (by decide) ?_
      exact jb c_1
  refine lv_i2l hx hb dX7_threadPacked_82 rfl ?_
  refine lv_ladd hx hb dX7_threadPacked_83 ?_
  refine lv_aload_n hx hb dX7_threadPacked_84 rfl (lv_at hl 1 rfl) ?_
  refine kr_get (C := "MonitorWaysModel") (T := TX7) (N := 27) hx hb hts hin_X7 hown hK hP 0 (by decide) (R_0 _ _ _ _) rfl 10 (by decide) lk_f39 (fun _ h9 => h9) rfl dX7_threadPacked_85 ?_
  refine lv_iload_n hx hb dX7_threadPacked_88 rfl (lv_at hl 2 rfl) ?_
  refine kr_zaldN hx hb hK hP 10 1 (by decide) (R_10 _ _ _ _) rfl (j := t) (by omega) (by decide) dX7_threadPacked_89 ?_
  refine kr_tern (M := 98) (cnd := iv 10 t = 0) (a := 0) (b := 2) (rest := [.long (((((((((((lv 8 t) * 8) + ((iv 7 t).toInt64)) * 8) + ((iv 4 t).toInt64)) * 8) + ((iv 5 t).toInt64)) * 8) + ((iv 6 t).toInt64)) * 8) + ((if iv 9 t = 0 then (0 : Int32) else 1).toInt64))]) (fun ja jb => ?_) ?_
  · refine lv_if_eq (tgt := 97) hx hb dX7_threadPacked_90 (by decide) (fun c_2 => ?_) (fun c_2 => ?_)
    · refine lv_iconst (v := 0) hx hb dX7_threadPacked_97 (by decide) ?_
      exact ja c_2
    · refine lv_iconst (v := 2) hx hb dX7_threadPacked_93 (by decide) ?_
      refine lv_goto (tgt := 98) hx hb dX7_threadPacked_94 (by decide) ?_
      exact jb c_2
  refine lv_i2l hx hb dX7_threadPacked_98 rfl ?_
  refine lv_ladd hx hb dX7_threadPacked_99 ?_
  refine lv_aload_n hx hb dX7_threadPacked_100 rfl (lv_at hl 1 rfl) ?_
  refine kr_get (C := "MonitorWaysModel") (T := TX7) (N := 27) hx hb hts hin_X7 hown hK hP 0 (by decide) (R_0 _ _ _ _) rfl 11 (by decide) lk_f42 (fun _ h9 => h9) rfl dX7_threadPacked_101 ?_
  refine lv_iload_n hx hb dX7_threadPacked_104 rfl (lv_at hl 2 rfl) ?_
  refine kr_zaldN hx hb hK hP 11 1 (by decide) (R_11 _ _ _ _) rfl (j := t) (by omega) (by decide) dX7_threadPacked_105 ?_
  refine kr_tern (M := 114) (cnd := iv 11 t = 0) (a := 0) (b := 4) (rest := [.long ((((((((((((lv 8 t) * 8) + ((iv 7 t).toInt64)) * 8) + ((iv 4 t).toInt64)) * 8) + ((iv 5 t).toInt64)) * 8) + ((iv 6 t).toInt64)) * 8) + ((if iv 9 t = 0 then (0 : Int32) else 1).toInt64)) + ((if iv 10 t = 0 then (0 : Int32) else 2).toInt64))]) (fun ja jb => ?_) ?_
  · refine lv_if_eq (tgt := 113) hx hb dX7_threadPacked_106 (by decide) (fun c_3 => ?_) (fun c_3 => ?_)
    · refine lv_iconst (v := 0) hx hb dX7_threadPacked_113 (by decide) ?_
      exact ja c_3
    · refine lv_iconst (v := 4) hx hb dX7_threadPacked_109 (by decide) ?_
      refine lv_goto (tgt := 114) hx hb dX7_threadPacked_110 (by decide) ?_
      exact jb c_3
  refine lv_i2l hx hb dX7_threadPacked_114 rfl ?_
  refine lv_ladd hx hb dX7_threadPacked_115 ?_
  exact kr_lret hx hb hr hlocks hK hP hD hS rfl rfl dX7_threadPacked_116
def n_oTunp (iv : Nat → Nat → Int32) (lv : Nat → Nat → Int64) (t : Nat) (x : Int64) : Nat → Nat → Int64 := (up2L lv 8 t (x >>> ((15 : Int32).toInt64 &&& 63)))
def m_oTunp (iv : Nat → Nat → Int32) (t : Nat) (x : Int64) : Nat → Nat → Int32 := (up2 (up2 (up2 (up2 (up2 (up2 (up2 iv 9 t (if (x &&& 1) = 1 then (1 : Int32) else 0)) 10 t (if (x &&& 2) = 2 then (1 : Int32) else 0)) 11 t (if (x &&& 4) = 4 then (1 : Int32) else 0)) 6 t (((x >>> ((3 : Int32).toInt64 &&& 63)).toInt32) &&& 7)) 5 t (((x >>> ((6 : Int32).toInt64 &&& 63)).toInt32) &&& 7)) 4 t (((x >>> ((9 : Int32).toInt64 &&& 63)).toInt32) &&& 7)) 7 t (((x >>> ((12 : Int32).toInt64 &&& 63)).toInt32) &&& 7))
set_option maxHeartbeats 4000000 in
set_option maxRecDepth 100000 in
theorem c_oTunp (l : Launch) (D : va_G) (gc : Nat → ClassId) (ad ln : Nat → Nat) (iv : Nat → Nat → Int32) (lv : Nat → Nat → Int64) (t : Nat) (ht : t < 4) (x : Int64) : kMv l yX7_threadUnpacked wX7_threadUnpacked ({ frames := 0, cells := 0, slots := 0, locals := 0 }) D vwCl (kT gc) 20 (rE gc) [.ref (ad 0), .int (nI t), .long x] (ad, ln, iv, lv) (ad, ln, m_oTunp iv t x, n_oTunp iv lv t x) := by
  refine kv_start (cc := cX7_threadUnpacked) (maxL := 6) (by decide) rfl (Nat.le_of_ble_eq_true rfl) ?_
  intro p9 e9 s m9 below meth c9 A ls hx hb hr hts hown hlocks hml hA hK hP hD hS hl
  have hl : lv_has ls 6 [(0, .ref (ad 0)), (1, .int (nI t)), (2, .long x)] := hl
  have hown : s.vm.findClass "MonitorWaysModel" = some m9.cls := hown
  have hin_X7 : ∀ w ∈ u_ws "MonitorWaysModel" TX7 27, w ∈ wX7_threadUnpacked := fun w h => tcons (inX7 w h)
  have lk_f35 := hts _ (tcons tw_583)
  have lk_f39 := hts _ (tcons tw_584)
  have lk_c79 := hts _ (tcons tw_678)
  have lk_f42 := hts _ (tcons tw_585)
  have lk_c81 := hts _ (tcons tw_573)
  have lk_f25 := hts _ (tcons tw_580)
  have lk_f22 := hts _ (tcons tw_579)
  have lk_f19 := hts _ (tcons tw_578)
  have lk_f28 := hts _ (tcons tw_581)
  have lk_f31 := hts _ (tcons tw_582)
  refine lv_lload_n hx hb dX7_threadUnpacked_0 rfl (lv_at hl 2 rfl) ?_
  refine lv_lstore (lv' := [(4, .long x), (0, .ref (ad 0)), (1, .int (nI t)), (2, .long x)]) hx hb dX7_threadUnpacked_1 hl (by decide) rfl (fun ls hl => ?_)
  refine lv_aload_n hx hb dX7_threadUnpacked_3 rfl (lv_at hl 1 rfl) ?_
  refine kr_get (C := "MonitorWaysModel") (T := TX7) (N := 27) hx hb hts hin_X7 hown hK hP 0 (by decide) (R_0 _ _ _ _) rfl 9 (by decide) lk_f35 (fun _ h9 => h9) rfl dX7_threadUnpacked_4 ?_
  refine lv_iload_n hx hb dX7_threadUnpacked_7 rfl (lv_at hl 2 rfl) ?_
  refine lv_lload hx hb dX7_threadUnpacked_8 (lv_at hl 0 rfl) ?_
  refine lv_lconst (v := 1) hx hb dX7_threadUnpacked_10 (by decide) ?_
  refine lv_land hx hb dX7_threadUnpacked_11 ?_
  refine lv_lconst (v := 1) hx hb dX7_threadUnpacked_12 (by decide) ?_
  refine W.lcmp hx hb dX7_threadUnpacked_13 ?_
  refine kr_tern (M := 22) (cnd := (x &&& 1) = 1) (a := 1) (b := 0) (rest := [.int (nI t), .ref (ad 9)]) (fun ja jb => ?_) ?_
  · refine lv_if_ne (tgt := 21) hx hb dX7_threadUnpacked_14 (by decide) (fun c_1 => ?_) (fun c_1 => ?_)
    · refine lv_iconst (v := 0) hx hb dX7_threadUnpacked_21 (by decide) ?_
      exact jb (fun h => c_1 ((lg_cmp_eq _ _).mpr h))
    · refine lv_iconst (v := 1) hx hb dX7_threadUnpacked_17 (by decide) ?_
      refine lv_goto (tgt := 22) hx hb dX7_threadUnpacked_18 (by decide) ?_
      exact ja ((lg_cmp_eq _ _).mp c_1)
  refine kr_zastN hx hb hK hP hD hS 9 1 (by decide) (fun _ => R_9 _ _ _ _) rfl (j := t) (by omega) (by decide) (vb_ite (by decide) (by decide)) dX7_threadUnpacked_22 (fun H locs hP hD hS => ?_)
  refine lv_aload_n hx hb dX7_threadUnpacked_23 rfl (lv_at hl 1 rfl) ?_
  refine kr_get (C := "MonitorWaysModel") (T := TX7) (N := 27) hx hb hts hin_X7 hown hK hP 0 (by decide) (R_0 _ _ _ _) rfl 10 (by decide) lk_f39 (fun _ h9 => h9) rfl dX7_threadUnpacked_24 ?_
  refine lv_iload_n hx hb dX7_threadUnpacked_27 rfl (lv_at hl 2 rfl) ?_
  refine lv_lload hx hb dX7_threadUnpacked_28 (lv_at hl 0 rfl) ?_
  refine lv_ldc2 (v := 2) hx hb hown lk_c79 dX7_threadUnpacked_30 ?_
  refine lv_land hx hb dX7_threadUnpacked_33 ?_
  refine lv_ldc2 (v := 2) hx hb hown lk_c79 dX7_threadUnpacked_34 ?_
  refine W.lcmp hx hb dX7_threadUnpacked_37 ?_
  refine kr_tern (M := 46) (cnd := (x &&& 2) = 2) (a := 1) (b := 0) (rest := [.int (nI t), .ref (ad 10)]) (fun ja jb => ?_) ?_
  · refine lv_if_ne (tgt := 45) hx hb dX7_threadUnpacked_38 (by decide) (fun c_2 => ?_) (fun c_2 => ?_)
    · refine lv_iconst (v := 0) hx hb dX7_threadUnpacked_45 (by decide) ?_
      exact jb (fun h => c_2 ((lg_cmp_eq _ _).mpr h))
    · refine lv_iconst (v := 1) hx hb dX7_threadUnpacked_41 (by decide) ?_
      refine lv_goto (tgt := 46) hx hb dX7_threadUnpacked_42 (by decide) ?_
      exact ja ((lg_cmp_eq _ _).mp c_2)
  refine kr_zastN hx hb hK hP hD hS 10 1 (by decide) (fun _ => R_10 _ _ _ _) rfl (j := t) (by omega) (by decide) (vb_ite (by decide) (by decide)) dX7_threadUnpacked_46 (fun H locs hP hD hS => ?_)
  refine lv_aload_n hx hb dX7_threadUnpacked_47 rfl (lv_at hl 1 rfl) ?_
  refine kr_get (C := "MonitorWaysModel") (T := TX7) (N := 27) hx hb hts hin_X7 hown hK hP 0 (by decide) (R_0 _ _ _ _) rfl 11 (by decide) lk_f42 (fun _ h9 => h9) rfl dX7_threadUnpacked_48 ?_
  refine lv_iload_n hx hb dX7_threadUnpacked_51 rfl (lv_at hl 2 rfl) ?_
  refine lv_lload hx hb dX7_threadUnpacked_52 (lv_at hl 0 rfl) ?_
  refine lv_ldc2 (v := 4) hx hb hown lk_c81 dX7_threadUnpacked_54 ?_
  refine lv_land hx hb dX7_threadUnpacked_57 ?_
  refine lv_ldc2 (v := 4) hx hb hown lk_c81 dX7_threadUnpacked_58 ?_
  refine W.lcmp hx hb dX7_threadUnpacked_61 ?_
  refine kr_tern (M := 70) (cnd := (x &&& 4) = 4) (a := 1) (b := 0) (rest := [.int (nI t), .ref (ad 11)]) (fun ja jb => ?_) ?_
  · refine lv_if_ne (tgt := 69) hx hb dX7_threadUnpacked_62 (by decide) (fun c_3 => ?_) (fun c_3 => ?_)
    · refine lv_iconst (v := 0) hx hb dX7_threadUnpacked_69 (by decide) ?_
      exact jb (fun h => c_3 ((lg_cmp_eq _ _).mpr h))
    · refine lv_iconst (v := 1) hx hb dX7_threadUnpacked_65 (by decide) ?_
      refine lv_goto (tgt := 70) hx hb dX7_threadUnpacked_66 (by decide) ?_
      exact ja ((lg_cmp_eq _ _).mp c_3)
  refine kr_zastN hx hb hK hP hD hS 11 1 (by decide) (fun _ => R_11 _ _ _ _) rfl (j := t) (by omega) (by decide) (vb_ite (by decide) (by decide)) dX7_threadUnpacked_70 (fun H locs hP hD hS => ?_)
  refine lv_aload_n hx hb dX7_threadUnpacked_71 rfl (lv_at hl 1 rfl) ?_
  refine kr_get (C := "MonitorWaysModel") (T := TX7) (N := 27) hx hb hts hin_X7 hown hK hP 0 (by decide) (R_0 _ _ _ _) rfl 6 (by decide) lk_f25 (fun _ h9 => h9) rfl dX7_threadUnpacked_72 ?_
  refine lv_iload_n hx hb dX7_threadUnpacked_75 rfl (lv_at hl 2 rfl) ?_
  refine lv_lload hx hb dX7_threadUnpacked_76 (lv_at hl 0 rfl) ?_
  refine lv_iconst (v := 3) hx hb dX7_threadUnpacked_78 (by decide) ?_
  refine lv_lshr hx hb dX7_threadUnpacked_79 rfl ?_
  refine lv_l2i hx hb dX7_threadUnpacked_80 rfl ?_
  refine lv_bipush (v := 7) hx hb dX7_threadUnpacked_81 (by decide) ?_
  refine lv_iand hx hb dX7_threadUnpacked_83 ?_
  refine kr_iastN hx hb hK hP hD hS 6 0 (by decide) (fun _ => R_6 _ _ _ _) rfl (j := t) (by omega) (by decide) dX7_threadUnpacked_84 (fun H locs hP hD hS => ?_)
  refine lv_aload_n hx hb dX7_threadUnpacked_85 rfl (lv_at hl 1 rfl) ?_
  refine kr_get (C := "MonitorWaysModel") (T := TX7) (N := 27) hx hb hts hin_X7 hown hK hP 0 (by decide) (R_0 _ _ _ _) rfl 5 (by decide) lk_f22 (fun _ h9 => h9) rfl dX7_threadUnpacked_86 ?_
  refine lv_iload_n hx hb dX7_threadUnpacked_89 rfl (lv_at hl 2 rfl) ?_
  refine lv_lload hx hb dX7_threadUnpacked_90 (lv_at hl 0 rfl) ?_
  refine lv_bipush (v := 6) hx hb dX7_threadUnpacked_92 (by decide) ?_
  refine lv_lshr hx hb dX7_threadUnpacked_94 rfl ?_
  refine lv_l2i hx hb dX7_threadUnpacked_95 rfl ?_
  refine lv_bipush (v := 7) hx hb dX7_threadUnpacked_96 (by decide) ?_
  refine lv_iand hx hb dX7_threadUnpacked_98 ?_
  refine kr_iastN hx hb hK hP hD hS 5 0 (by decide) (fun _ => R_5 _ _ _ _) rfl (j := t) (by omega) (by decide) dX7_threadUnpacked_99 (fun H locs hP hD hS => ?_)
  refine lv_aload_n hx hb dX7_threadUnpacked_100 rfl (lv_at hl 1 rfl) ?_
  refine kr_get (C := "MonitorWaysModel") (T := TX7) (N := 27) hx hb hts hin_X7 hown hK hP 0 (by decide) (R_0 _ _ _ _) rfl 4 (by decide) lk_f19 (fun _ h9 => h9) rfl dX7_threadUnpacked_101 ?_
  refine lv_iload_n hx hb dX7_threadUnpacked_104 rfl (lv_at hl 2 rfl) ?_
  refine lv_lload hx hb dX7_threadUnpacked_105 (lv_at hl 0 rfl) ?_
  refine lv_bipush (v := 9) hx hb dX7_threadUnpacked_107 (by decide) ?_
  refine lv_lshr hx hb dX7_threadUnpacked_109 rfl ?_
  refine lv_l2i hx hb dX7_threadUnpacked_110 rfl ?_
  refine lv_bipush (v := 7) hx hb dX7_threadUnpacked_111 (by decide) ?_
  refine lv_iand hx hb dX7_threadUnpacked_113 ?_
  refine kr_iastN hx hb hK hP hD hS 4 0 (by decide) (fun _ => R_4 _ _ _ _) rfl (j := t) (by omega) (by decide) dX7_threadUnpacked_114 (fun H locs hP hD hS => ?_)
  refine lv_aload_n hx hb dX7_threadUnpacked_115 rfl (lv_at hl 1 rfl) ?_
  refine kr_get (C := "MonitorWaysModel") (T := TX7) (N := 27) hx hb hts hin_X7 hown hK hP 0 (by decide) (R_0 _ _ _ _) rfl 7 (by decide) lk_f28 (fun _ h9 => h9) rfl dX7_threadUnpacked_116 ?_
  refine lv_iload_n hx hb dX7_threadUnpacked_119 rfl (lv_at hl 2 rfl) ?_
  refine lv_lload hx hb dX7_threadUnpacked_120 (lv_at hl 0 rfl) ?_
  refine lv_bipush (v := 12) hx hb dX7_threadUnpacked_122 (by decide) ?_
  refine lv_lshr hx hb dX7_threadUnpacked_124 rfl ?_
  refine lv_l2i hx hb dX7_threadUnpacked_125 rfl ?_
  refine lv_bipush (v := 7) hx hb dX7_threadUnpacked_126 (by decide) ?_
  refine lv_iand hx hb dX7_threadUnpacked_128 ?_
  refine kr_iastN hx hb hK hP hD hS 7 0 (by decide) (fun _ => R_7 _ _ _ _) rfl (j := t) (by omega) (by decide) dX7_threadUnpacked_129 (fun H locs hP hD hS => ?_)
  refine lv_aload_n hx hb dX7_threadUnpacked_130 rfl (lv_at hl 1 rfl) ?_
  refine kr_get (C := "MonitorWaysModel") (T := TX7) (N := 27) hx hb hts hin_X7 hown hK hP 0 (by decide) (R_0 _ _ _ _) rfl 8 (by decide) lk_f31 (fun _ h9 => h9) rfl dX7_threadUnpacked_131 ?_
  refine lv_iload_n hx hb dX7_threadUnpacked_134 rfl (lv_at hl 2 rfl) ?_
  refine lv_lload hx hb dX7_threadUnpacked_135 (lv_at hl 0 rfl) ?_
  refine lv_bipush (v := 15) hx hb dX7_threadUnpacked_137 (by decide) ?_
  refine lv_lshr hx hb dX7_threadUnpacked_139 rfl ?_
  refine kr_lastN hx hb hK hP hD hS 8 2 (by decide) (fun _ => R_8 _ _ _ _) rfl (j := t) (by omega) (by decide) dX7_threadUnpacked_140 (fun H locs hP hD hS => ?_)
  exact kr_vret hx hb hr hlocks hK hP hD hS (mem4 rfl rfl) dX7_threadUnpacked_141
def n_oBroken (iv : Nat → Nat → Int32) (lv : Nat → Nat → Int64) (t : Nat) (x : Int32) : Nat → Nat → Int64 := if iv 9 t = 0 then if x = 0 then lv else (n_oPut iv lv t 5) else (n_oPut iv lv t (if x = 0 then (1 : Int32) else 4))
def m_oBroken (iv : Nat → Nat → Int32) (t : Nat) (x : Int32) : Nat → Nat → Int32 := if iv 9 t = 0 then if x = 0 then (up2 iv 9 t 0) else (up2 (m_oPut iv t 5) 9 t 0) else (up2 (m_oPut iv t (if x = 0 then (1 : Int32) else 4)) 9 t 0)
set_option maxHeartbeats 4000000 in
set_option maxRecDepth 100000 in
theorem c_oBroken (l : Launch) (D : va_G) (gc : Nat → ClassId) (ad ln : Nat → Nat) (iv : Nat → Nat → Int32) (lv : Nat → Nat → Int64) (t : Nat) (ht : t < 4) (x : Int32) : kMv l yX7_brokenOr wX7_brokenOr ({ frames := 1, cells := 0, slots := 0, locals := 22 }) D vwCl (kT gc) 20 (rE gc) [.ref (ad 0), .int (nI t), .int x] (ad, ln, iv, lv) (ad, ln, m_oBroken iv t x, n_oBroken iv lv t x) := by
  refine kv_start (cc := cX7_brokenOr) (maxL := 3) (by decide) rfl (Nat.le_of_ble_eq_true rfl) ?_
  intro p9 e9 s m9 below meth c9 A ls hx hb hr hts hown hlocks hml hA hK hP hD hS hl
  have hl : lv_has ls 3 [(0, .ref (ad 0)), (1, .int (nI t)), (2, .int x)] := hl
  have hown : s.vm.findClass "MonitorWaysModel" = some m9.cls := hown
  have hin_X7 : ∀ w ∈ u_ws "MonitorWaysModel" TX7 27, w ∈ wX7_brokenOr := fun w h => tcons (inX7 w h)
  have lk_f35 := hts _ (tcons tw_583)
  refine lv_aload_n hx hb dX7_brokenOr_0 rfl (lv_at hl 0 rfl) ?_
  refine kr_get (C := "MonitorWaysModel") (T := TX7) (N := 27) hx hb hts hin_X7 hown hK hP 0 (by decide) (R_0 _ _ _ _) rfl 9 (by decide) lk_f35 (fun _ h9 => h9) rfl dX7_brokenOr_1 ?_
  refine lv_iload_n hx hb dX7_brokenOr_4 rfl (lv_at hl 1 rfl) ?_
  refine kr_zaldN hx hb hK hP 9 1 (by decide) (R_9 _ _ _ _) rfl (j := t) (by omega) (by decide) dX7_brokenOr_5 ?_
  refine lv_if_eq (tgt := 26) hx hb dX7_brokenOr_6 (by decide) (fun c_1 => ?_) (fun c_1 => ?_)
  · refine lv_iload_n hx hb dX7_brokenOr_26 rfl (lv_at hl 2 rfl) ?_
    refine lv_if_eq (tgt := 36) hx hb dX7_brokenOr_27 (by decide) (fun c_2 => ?_) (fun c_2 => ?_)
    · refine lv_aload_n hx hb dX7_brokenOr_36 rfl (lv_at hl 0 rfl) ?_
      refine kr_get (C := "MonitorWaysModel") (T := TX7) (N := 27) hx hb hts hin_X7 hown hK hP 0 (by decide) (R_0 _ _ _ _) rfl 9 (by decide) lk_f35 (fun _ h9 => h9) rfl dX7_brokenOr_37 ?_
      refine lv_iload_n hx hb dX7_brokenOr_40 rfl (lv_at hl 1 rfl) ?_
      refine lv_iconst (v := 0) hx hb dX7_brokenOr_41 (by decide) ?_
      refine kr_zastN hx hb hK hP hD hS 9 1 (by decide) (fun _ => R_9 _ _ _ _) rfl (j := t) (by omega) (by decide) (by decide) dX7_brokenOr_42 (fun H locs hP hD hS => ?_)
      exact kr_vret hx hb hr hlocks hK hP hD hS (mem4 (by unfold m_oBroken; first | (rw [if_pos c_1, if_pos c_2]; done) | simp only [if_pos c_1, if_pos c_2]) (by unfold n_oBroken; first | (rw [if_pos c_1, if_pos c_2]; done) | simp only [if_pos c_1, if_pos c_2])) dX7_brokenOr_43
    · refine lv_aload_n hx hb dX7_brokenOr_30 rfl (lv_at hl 0 rfl) ?_
      refine lv_iload_n hx hb dX7_brokenOr_31 rfl (lv_at hl 1 rfl) ?_
      refine lv_iconst (v := 5) hx hb dX7_brokenOr_32 (by decide) ?_
      refine kr_callVv (As := [.int (nI t), .int 5]) (rest := []) ⟨hx, hb, hml, hown, hts⟩ (c_oPut l D gc ad ln iv lv t (by omega) 5) (cwV 2 hts (goodV (fun _ h => tcons h) tw_715 tw_717 ts_39 tw_8 tw_718) rfl rfl rfl (by decide +kernel) ⟨Nat.le_of_ble_eq_true rfl, Nat.le_of_ble_eq_true rfl⟩) (kr_recv hK hP 0 (by decide) (R_0 _ _ _ _) rfl) hK hP hD hS hA rfl hl.1 rfl (Nat.le_of_ble_eq_true rfl) dX7_brokenOr_33 ⟨Nat.le_of_ble_eq_true rfl, Nat.le_of_ble_eq_true rfl⟩ (fun H locs hP hD hS => ?_)
      refine lv_aload_n hx hb dX7_brokenOr_36 rfl (lv_at hl 0 rfl) ?_
      refine kr_get (C := "MonitorWaysModel") (T := TX7) (N := 27) hx hb hts hin_X7 hown hK hP 0 (by decide) (R_0 _ _ _ _) rfl 9 (by decide) lk_f35 (fun _ h9 => h9) rfl dX7_brokenOr_37 ?_
      refine lv_iload_n hx hb dX7_brokenOr_40 rfl (lv_at hl 1 rfl) ?_
      refine lv_iconst (v := 0) hx hb dX7_brokenOr_41 (by decide) ?_
      refine kr_zastN hx hb hK hP hD hS 9 1 (by decide) (fun _ => R_9 _ _ _ _) rfl (j := t) (by omega) (by decide) (by decide) dX7_brokenOr_42 (fun H locs hP hD hS => ?_)
      exact kr_vret hx hb hr hlocks hK hP hD hS (mem4 (by unfold m_oBroken; first | (rw [if_pos c_1, if_neg c_2]; done) | simp only [if_pos c_1, if_neg c_2]) (by unfold n_oBroken; first | (rw [if_pos c_1, if_neg c_2]; done) | simp only [if_pos c_1, if_neg c_2])) dX7_brokenOr_43
  · refine lv_aload_n hx hb dX7_brokenOr_9 rfl (lv_at hl 0 rfl) ?_
    refine lv_iload_n hx hb dX7_brokenOr_10 rfl (lv_at hl 1 rfl) ?_
    refine lv_iload_n hx hb dX7_brokenOr_11 rfl (lv_at hl 2 rfl) ?_
    refine kr_tern (M := 20) (cnd := x = 0) (a := 1) (b := 4) (rest := [.int (nI t), .ref (ad 0)]) (fun ja jb => ?_) ?_
    · refine lv_if_eq (tgt := 19) hx hb dX7_brokenOr_12 (by decide) (fun c_3 => ?_) (fun c_3 => ?_)
      · refine lv_iconst (v := 1) hx hb dX7_brokenOr_19 (by decide) ?_
        exact ja c_3
      · refine lv_iconst (v := 4) hx hb dX7_brokenOr_15 (by decide) ?_
        refine lv_goto (tgt := 20) hx hb dX7_brokenOr_16 (by decide) ?_
        exact jb c_3
    refine kr_callVv (As := [.int (nI t), .int (if x = 0 then (1 : Int32) else 4)]) (rest := []) ⟨hx, hb, hml, hown, hts⟩ (c_oPut l D gc ad ln iv lv t (by omega) (if x = 0 then (1 : Int32) else 4)) (cwV 2 hts (goodV (fun _ h => tcons h) tw_715 tw_717 ts_39 tw_8 tw_718) rfl rfl rfl (by decide +kernel) ⟨Nat.le_of_ble_eq_true rfl, Nat.le_of_ble_eq_true rfl⟩) (kr_recv hK hP 0 (by decide) (R_0 _ _ _ _) rfl) hK hP hD hS hA rfl hl.1 rfl (Nat.le_of_ble_eq_true rfl) dX7_brokenOr_20 ⟨Nat.le_of_ble_eq_true rfl, Nat.le_of_ble_eq_true rfl⟩ (fun H locs hP hD hS => ?_)
    refine lv_goto (tgt := 36) hx hb dX7_brokenOr_23 (by decide) ?_
    refine lv_aload_n hx hb dX7_brokenOr_36 rfl (lv_at hl 0 rfl) ?_
    refine kr_get (C := "MonitorWaysModel") (T := TX7) (N := 27) hx hb hts hin_X7 hown hK hP 0 (by decide) (R_0 _ _ _ _) rfl 9 (by decide) lk_f35 (fun _ h9 => h9) rfl dX7_brokenOr_37 ?_
    refine lv_iload_n hx hb dX7_brokenOr_40 rfl (lv_at hl 1 rfl) ?_
    refine lv_iconst (v := 0) hx hb dX7_brokenOr_41 (by decide) ?_
    refine kr_zastN hx hb hK hP hD hS 9 1 (by decide) (fun _ => R_9 _ _ _ _) rfl (j := t) (by omega) (by decide) (by decide) dX7_brokenOr_42 (fun H locs hP hD hS => ?_)
    exact kr_vret hx hb hr hlocks hK hP hD hS (mem4 (by unfold m_oBroken; first | (rw [if_neg c_1]; done) | simp only [if_neg c_1]) (by unfold n_oBroken; first | (rw [if_neg c_1]; done) | simp only [if_neg c_1])) dX7_brokenOr_43
def m_oForget (iv : Nat → Nat → Int32) : Nat → Nat → Int32 := (up2 (up2 (up2 (up2 (up2 (up2 (up2 (up2 (up2 iv 0 23 0) 0 22 0) 0 21 0) 0 20 0) 0 19 0) 19 0 0) 19 1 0) 19 2 0) 19 3 0)
set_option maxHeartbeats 4000000 in
set_option maxRecDepth 100000 in
theorem c_oForget (l : Launch) (D : va_G) (gc : Nat → ClassId) (ad ln : Nat → Nat) (iv : Nat → Nat → Int32) (lv : Nat → Nat → Int64) : kMv l yX7_forget wX7_forget ({ frames := 0, cells := 0, slots := 0, locals := 0 }) D vwCl (kT gc) 20 (rE gc) [.ref (ad 0)] (ad, ln, iv, lv) (ad, ln, m_oForget iv, lv) := by
  refine kv_start (cc := cX7_forget) (maxL := 2) (by decide) rfl (Nat.le_of_ble_eq_true rfl) ?_
  intro p9 e9 s m9 below meth c9 A ls hx hb hr hts hown hlocks hml hA hK hP hD hS hl
  have hl : lv_has ls 2 [(0, .ref (ad 0))] := hl
  have hown : s.vm.findClass "MonitorWaysModel" = some m9.cls := hown
  have hin_X7 : ∀ w ∈ u_ws "MonitorWaysModel" TX7 27, w ∈ wX7_forget := fun w h => tcons (inX7 w h)
  have lk_f152 := hts _ (tcons tw_597)
  have lk_f156 := hts _ (tcons tw_596)
  have lk_f159 := hts _ (tcons tw_595)
  have lk_f162 := hts _ (tcons tw_594)
  have lk_f165 := hts _ (tcons tw_593)
  have lk_f66 := hts _ (tcons tw_599)
  refine lv_aload_n hx hb dX7_forget_0 rfl (lv_at hl 0 rfl) ?_
  refine lv_aload_n hx hb dX7_forget_1 rfl (lv_at hl 0 rfl) ?_
  refine lv_aload_n hx hb dX7_forget_2 rfl (lv_at hl 0 rfl) ?_
  refine lv_aload_n hx hb dX7_forget_3 rfl (lv_at hl 0 rfl) ?_
  refine lv_aload_n hx hb dX7_forget_4 rfl (lv_at hl 0 rfl) ?_
  refine lv_iconst (v := 0) hx hb dX7_forget_5 (by decide) ?_
  refine lv_dup_x1 hx hb dX7_forget_6 rfl rfl ?_
  refine kr_put (C := "MonitorWaysModel") (T := TX7) (N := 27) hx hb hts hin_X7 tyX7 ok_tyX7 ok_nX7 hown hK hP hD hS 0 (by decide) (fun _ => R_0 _ _ _ _) rfl 23 (by decide) lk_f152 (fun _ h9 => h9) rfl rfl rfl rfl (fun _ => Nat.le_of_ble_eq_true rfl) (fun _ => rfl) dX7_forget_7 (fun H locs hP hD hS => ?_)
  refine lv_dup_x1 hx hb dX7_forget_10 rfl rfl ?_
  refine kr_put (C := "MonitorWaysModel") (T := TX7) (N := 27) hx hb hts hin_X7 tyX7 ok_tyX7 ok_nX7 hown hK hP hD hS 0 (by decide) (fun _ => R_0 _ _ _ _) rfl 22 (by decide) lk_f156 (fun _ h9 => h9) rfl rfl rfl rfl (fun _ => Nat.le_of_ble_eq_true rfl) (fun _ => rfl) dX7_forget_11 (fun H locs hP hD hS => ?_)
  refine lv_dup_x1 hx hb dX7_forget_14 rfl rfl ?_
  refine kr_put (C := "MonitorWaysModel") (T := TX7) (N := 27) hx hb hts hin_X7 tyX7 ok_tyX7 ok_nX7 hown hK hP hD hS 0 (by decide) (fun _ => R_0 _ _ _ _) rfl 21 (by decide) lk_f159 (fun _ h9 => h9) rfl rfl rfl rfl (fun _ => Nat.le_of_ble_eq_true rfl) (fun _ => rfl) dX7_forget_15 (fun H locs hP hD hS => ?_)
  refine lv_dup_x1 hx hb dX7_forget_18 rfl rfl ?_
  refine kr_put (C := "MonitorWaysModel") (T := TX7) (N := 27) hx hb hts hin_X7 tyX7 ok_tyX7 ok_nX7 hown hK hP hD hS 0 (by decide) (fun _ => R_0 _ _ _ _) rfl 20 (by decide) lk_f162 (fun _ h9 => h9) rfl rfl rfl rfl (fun _ => Nat.le_of_ble_eq_true rfl) (fun _ => rfl) dX7_forget_19 (fun H locs hP hD hS => ?_)
  refine kr_put (C := "MonitorWaysModel") (T := TX7) (N := 27) hx hb hts hin_X7 tyX7 ok_tyX7 ok_nX7 hown hK hP hD hS 0 (by decide) (fun _ => R_0 _ _ _ _) rfl 19 (by decide) lk_f165 (fun _ h9 => h9) rfl rfl rfl rfl (fun _ => Nat.le_of_ble_eq_true rfl) (fun _ => rfl) dX7_forget_22 (fun H locs hP hD hS => ?_)
  refine lv_iconst (v := 0) hx hb dX7_forget_25 (by decide) ?_
  refine lv_istore_n (lv' := [(1, .int 0), (0, .ref (ad 0))]) hx hb dX7_forget_26 rfl hl (by decide) rfl (fun ls hl => ?_)
  refine lv_iload_n hx hb dX7_forget_27 rfl (lv_at hl 0 rfl) ?_
  refine lv_iconst (v := 4) hx hb dX7_forget_28 (by decide) ?_
  refine lv_icmp_ge (tgt := 45) hx hb dX7_forget_29 (by decide) (fun c_1 => absurd c_1 (by decide)) (fun c_1 => ?_)
  refine lv_aload_n hx hb dX7_forget_32 rfl (lv_at hl 1 rfl) ?_
  refine kr_get (C := "MonitorWaysModel") (T := TX7) (N := 27) hx hb hts hin_X7 hown hK hP 0 (by decide) (R_0 _ _ _ _) rfl 25 (by decide) lk_f66 (fun _ h9 => h9) rfl dX7_forget_33 ?_
  refine lv_iload_n hx hb dX7_forget_36 rfl (lv_at hl 0 rfl) ?_
  refine lv_iconst (v := 0) hx hb dX7_forget_37 (by decide) ?_
  refine kr_zastN hx hb hK hP hD hS 19 1 (by decide) (fun _ => R_19 _ _ _ _) rfl (j := 0) (by decide) (by decide) (by decide) dX7_forget_38 (fun H locs hP hD hS => ?_)
  refine lv_iinc (v := 1) (lv' := [(1, .int 1), (0, .ref (ad 0))]) hx hb dX7_forget_39 hl (k := 0) rfl (by decide) (by decide) rfl (fun ls hl => ?_)
  refine lv_goto (tgt := 27) hx hb dX7_forget_42 (by decide) ?_
  refine lv_iload_n hx hb dX7_forget_27 rfl (lv_at hl 0 rfl) ?_
  refine lv_iconst (v := 4) hx hb dX7_forget_28 (by decide) ?_
  refine lv_icmp_ge (tgt := 45) hx hb dX7_forget_29 (by decide) (fun c_2 => absurd c_2 (by decide)) (fun c_2 => ?_)
  refine lv_aload_n hx hb dX7_forget_32 rfl (lv_at hl 1 rfl) ?_
  refine kr_get (C := "MonitorWaysModel") (T := TX7) (N := 27) hx hb hts hin_X7 hown hK hP 0 (by decide) (R_0 _ _ _ _) rfl 25 (by decide) lk_f66 (fun _ h9 => h9) rfl dX7_forget_33 ?_
  refine lv_iload_n hx hb dX7_forget_36 rfl (lv_at hl 0 rfl) ?_
  refine lv_iconst (v := 0) hx hb dX7_forget_37 (by decide) ?_
  refine kr_zastN hx hb hK hP hD hS 19 1 (by decide) (fun _ => R_19 _ _ _ _) rfl (j := 1) (by decide) (by decide) (by decide) dX7_forget_38 (fun H locs hP hD hS => ?_)
  refine lv_iinc (v := 2) (lv' := [(1, .int 2), (0, .ref (ad 0))]) hx hb dX7_forget_39 hl (k := 0) rfl (by decide) (by decide) rfl (fun ls hl => ?_)
  refine lv_goto (tgt := 27) hx hb dX7_forget_42 (by decide) ?_
  refine lv_iload_n hx hb dX7_forget_27 rfl (lv_at hl 0 rfl) ?_
  refine lv_iconst (v := 4) hx hb dX7_forget_28 (by decide) ?_
  refine lv_icmp_ge (tgt := 45) hx hb dX7_forget_29 (by decide) (fun c_3 => absurd c_3 (by decide)) (fun c_3 => ?_)
  refine lv_aload_n hx hb dX7_forget_32 rfl (lv_at hl 1 rfl) ?_
  refine kr_get (C := "MonitorWaysModel") (T := TX7) (N := 27) hx hb hts hin_X7 hown hK hP 0 (by decide) (R_0 _ _ _ _) rfl 25 (by decide) lk_f66 (fun _ h9 => h9) rfl dX7_forget_33 ?_
  refine lv_iload_n hx hb dX7_forget_36 rfl (lv_at hl 0 rfl) ?_
  refine lv_iconst (v := 0) hx hb dX7_forget_37 (by decide) ?_
  refine kr_zastN hx hb hK hP hD hS 19 1 (by decide) (fun _ => R_19 _ _ _ _) rfl (j := 2) (by decide) (by decide) (by decide) dX7_forget_38 (fun H locs hP hD hS => ?_)
  refine lv_iinc (v := 3) (lv' := [(1, .int 3), (0, .ref (ad 0))]) hx hb dX7_forget_39 hl (k := 0) rfl (by decide) (by decide) rfl (fun ls hl => ?_)
  refine lv_goto (tgt := 27) hx hb dX7_forget_42 (by decide) ?_
  refine lv_iload_n hx hb dX7_forget_27 rfl (lv_at hl 0 rfl) ?_
  refine lv_iconst (v := 4) hx hb dX7_forget_28 (by decide) ?_
  refine lv_icmp_ge (tgt := 45) hx hb dX7_forget_29 (by decide) (fun c_4 => absurd c_4 (by decide)) (fun c_4 => ?_)
  refine lv_aload_n hx hb dX7_forget_32 rfl (lv_at hl 1 rfl) ?_
  refine kr_get (C := "MonitorWaysModel") (T := TX7) (N := 27) hx hb hts hin_X7 hown hK hP 0 (by decide) (R_0 _ _ _ _) rfl 25 (by decide) lk_f66 (fun _ h9 => h9) rfl dX7_forget_33 ?_
  refine lv_iload_n hx hb dX7_forget_36 rfl (lv_at hl 0 rfl) ?_
  refine lv_iconst (v := 0) hx hb dX7_forget_37 (by decide) ?_
  refine kr_zastN hx hb hK hP hD hS 19 1 (by decide) (fun _ => R_19 _ _ _ _) rfl (j := 3) (by decide) (by decide) (by decide) dX7_forget_38 (fun H locs hP hD hS => ?_)
  refine lv_iinc (v := 4) (lv' := [(1, .int 4), (0, .ref (ad 0))]) hx hb dX7_forget_39 hl (k := 0) rfl (by decide) (by decide) rfl (fun ls hl => ?_)
  refine lv_goto (tgt := 27) hx hb dX7_forget_42 (by decide) ?_
  refine lv_iload_n hx hb dX7_forget_27 rfl (lv_at hl 0 rfl) ?_
  refine lv_iconst (v := 4) hx hb dX7_forget_28 (by decide) ?_
  refine lv_icmp_ge (tgt := 45) hx hb dX7_forget_29 (by decide) (fun c_5 => ?_) (fun c_5 => absurd (by decide) c_5)
  exact kr_vret hx hb hr hlocks hK hP hD hS rfl dX7_forget_45
