def r_aEnded (iv : Nat → Nat → Int32) (mi t : Nat) : Int32 := (if iv (20 + 4 * mi + t) 0 = 4 then (1 : Int32) else 0)
theorem nb_aEnded (iv : Nat → Nat → Int32) (mi t : Nat) : narrow .boolean (.int (r_aEnded iv mi t)) = .int (r_aEnded iv mi t) := by
  unfold r_aEnded; repeat' split
  all_goals rfl
set_option maxHeartbeats 4000000 in
set_option maxRecDepth 100000 in
theorem c_aEnded (l : Launch) (D : va_G) (gc : Nat → ClassId) (ad ln : Nat → Nat) (iv : Nat → Nat → Int32) (lv : Nat → Nat → Int64) (mi t : Nat) (hmi : mi < 2) (ht : t < 4) : kMi l yX0_hasEnded wX0_hasEnded ({ frames := 0, cells := 0, slots := 0, locals := 0 }) D vwCl (kT gc) 42 (kE gc) [.ref (ad (14 + mi)), .int (nI t)] (ad, ln, iv, lv) (ad, ln, iv, lv) (r_aEnded iv mi t) := by
  refine ki_start (cc := cX0_hasEnded) (maxL := 2) (ret := (some .boolean)) (by decide) rfl (Nat.le_of_ble_eq_true rfl) ?_
  intro p9 e9 s m9 below meth c9 A ls hx hb hr hts hown hlocks hml hA hK hP hD hS hl
  have hl : lv_has ls 2 [(0, .ref (ad (14 + mi))), (1, .int (nI t))] := hl
  have hown : s.vm.findClass "MonitorWays$Machine" = some m9.cls := hown
  have hin_X0 : ∀ w ∈ u_ws "MonitorWays$Machine" TX0 3, w ∈ wX0_hasEnded := fun w h => tcons (inX0 w h)
  have hin_X5 : ∀ w ∈ u_ws "MonitorWays$Worker" TX5 8, w ∈ wX0_hasEnded := fun w h => tcons (inX5 w h)
  have lk_f11 := hts _ (tcons tw_126)
  have lk_f36 := hts _ (tcons tw_58)
  refine lv_aload_n hx hb dX0_hasEnded_0 rfl (lv_at hl 0 rfl) ?_
  refine kr_get (C := "MonitorWays$Machine") (T := TX0) (N := 3) hx hb hts hin_X0 hown hK hP (14 + mi) (by omega) (E_mach hmi _ _ _ _) rfl 0 (by decide) lk_f11 (fun _ h9 => h9) rfl dX0_hasEnded_1 ?_
  refine lv_iload_n hx hb dX0_hasEnded_4 rfl (lv_at hl 1 rfl) ?_
  refine kr_aald (a := ad (20 + 4 * mi + t)) hx hb hK hP (16 + mi) 4 (by omega) (E_warr hmi _ _ _ _) rfl (vp_in_nI (n := t) (by omega) (by decide)) (by rw [nI_clamp (show t < 2 ^ 31 by omega)]) dX0_hasEnded_5 ?_
  refine kr_get (C := "MonitorWays$Worker") (T := TX5) (N := 8) hx hb hts hin_X5 hown hK hP (20 + 4 * mi + t) (by omega) (E_wk (mi := mi) (t := t) hmi (by omega) _ _ _ _) rfl 0 (by decide) lk_f36 (fun _ h9 => h9) rfl dX0_hasEnded_6 ?_
  refine lv_iconst (v := 4) hx hb dX0_hasEnded_9 (by decide) ?_
  refine kr_tern (M := 18) (cnd := iv (20 + 4 * mi + t) 0 = 4) (a := 1) (b := 0) (rest := []) (fun ja jb => ?_) ?_
  · refine lv_icmp_ne (tgt := 17) hx hb dX0_hasEnded_10 (by decide) (fun c_1 => ?_) (fun c_1 => ?_)
    · refine lv_iconst (v := 0) hx hb dX0_hasEnded_17 (by decide) ?_
      exact jb c_1
    · refine lv_iconst (v := 1) hx hb dX0_hasEnded_13 (by decide) ?_
      refine lv_goto (tgt := 18) hx hb dX0_hasEnded_14 (by decide) ?_
      exact ja c_1
  exact kr_zret hx hb hr hlocks hK hP hD hS (nb_ite (by decide) (by decide)) rfl rfl dX0_hasEnded_18
def r_aStray (iv : Nat → Nat → Int32) (mi t : Nat) : Int32 := if iv (14 + mi) 2 = 0 then 0 else (if iv (20 + 4 * mi + t) 5 = 0 then (1 : Int32) else 0)
theorem nb_aStray (iv : Nat → Nat → Int32) (mi t : Nat) : narrow .boolean (.int (r_aStray iv mi t)) = .int (r_aStray iv mi t) := by
  unfold r_aStray; repeat' split
  all_goals rfl
set_option maxHeartbeats 4000000 in
set_option maxRecDepth 100000 in
theorem c_aStray (l : Launch) (D : va_G) (gc : Nat → ClassId) (ad ln : Nat → Nat) (iv : Nat → Nat → Int32) (lv : Nat → Nat → Int64) (mi t : Nat) (hmi : mi < 2) (ht : t < 4) : kMi l yX0_mayStray wX0_mayStray ({ frames := 0, cells := 0, slots := 0, locals := 0 }) D vwCl (kT gc) 42 (kE gc) [.ref (ad (14 + mi)), .ref (ad (20 + 4 * mi + t))] (ad, ln, iv, lv) (ad, ln, iv, lv) (r_aStray iv mi t) := by
  refine ki_start (cc := cX0_mayStray) (maxL := 2) (ret := (some .boolean)) (by decide) rfl (Nat.le_of_ble_eq_true rfl) ?_
  intro p9 e9 s m9 below meth c9 A ls hx hb hr hts hown hlocks hml hA hK hP hD hS hl
  have hl : lv_has ls 2 [(0, .ref (ad (14 + mi))), (1, .ref (ad (20 + 4 * mi + t)))] := hl
  have hown : s.vm.findClass "MonitorWays$Machine" = some m9.cls := hown
  have hin_X0 : ∀ w ∈ u_ws "MonitorWays$Machine" TX0 3, w ∈ wX0_mayStray := fun w h => tcons (inX0 w h)
  have hin_X5 : ∀ w ∈ u_ws "MonitorWays$Worker" TX5 8, w ∈ wX0_mayStray := fun w h => tcons (inX5 w h)
  have lk_f23 := hts _ (tcons tw_130)
  have lk_f83 := hts _ (tcons tw_67)
  refine lv_aload_n hx hb dX0_mayStray_0 rfl (lv_at hl 0 rfl) ?_
  refine kr_get (C := "MonitorWays$Machine") (T := TX0) (N := 3) hx hb hts hin_X0 hown hK hP (14 + mi) (by omega) (E_mach hmi _ _ _ _) rfl 2 (by decide) lk_f23 (fun _ h9 => h9) rfl dX0_mayStray_1 ?_
  refine lv_if_eq (tgt := 18) hx hb dX0_mayStray_4 (by decide) (fun c_1 => ?_) (fun c_1 => ?_)
  · refine lv_iconst (v := 0) hx hb dX0_mayStray_18 (by decide) ?_
    exact kr_zret hx hb hr hlocks hK hP hD hS (by decide) (by unfold r_aStray; rw [if_pos c_1]) rfl dX0_mayStray_19
  · refine lv_aload_n hx hb dX0_mayStray_7 rfl (lv_at hl 1 rfl) ?_
    refine kr_get (C := "MonitorWays$Worker") (T := TX5) (N := 8) hx hb hts hin_X5 hown hK hP (20 + 4 * mi + t) (by omega) (E_wk (mi := mi) (t := t) hmi ht _ _ _ _) rfl 5 (by decide) lk_f83 (fun _ h9 => h9) rfl dX0_mayStray_8 ?_
    refine kr_tern (M := 19) (cnd := iv (20 + 4 * mi + t) 5 = 0) (a := 1) (b := 0) (rest := []) (fun ja jb => ?_) ?_
    · refine lv_if_ne (tgt := 18) hx hb dX0_mayStray_11 (by decide) (fun c_2 => ?_) (fun c_2 => ?_)
      · refine lv_iconst (v := 0) hx hb dX0_mayStray_18 (by decide) ?_
        exact jb c_2
      · refine lv_iconst (v := 1) hx hb dX0_mayStray_14 (by decide) ?_
        refine lv_goto (tgt := 19) hx hb dX0_mayStray_15 (by decide) ?_
        exact ja c_2
    exact kr_zret hx hb hr hlocks hK hP hD hS (nb_ite (by decide) (by decide)) (by unfold r_aStray; rw [if_neg c_1]) rfl dX0_mayStray_19
def m_aIntr (iv : Nat → Nat → Int32) (mi t : Nat) : Nat → Nat → Int32 := if iv (20 + 4 * mi + t) 0 = 4 then iv else (up2 iv (20 + 4 * mi + t) 3 1)
set_option maxHeartbeats 4000000 in
set_option maxRecDepth 100000 in
theorem c_aIntr (l : Launch) (D : va_G) (gc : Nat → ClassId) (ad ln : Nat → Nat) (iv : Nat → Nat → Int32) (lv : Nat → Nat → Int64) (mi t : Nat) (hmi : mi < 2) (ht : t < 4) : kMv l yX0_interrupt wX0_interrupt ({ frames := 0, cells := 0, slots := 0, locals := 0 }) D vwCl (kT gc) 42 (kE gc) [.ref (ad (14 + mi)), .ref (ad (20 + 4 * mi + t))] (ad, ln, iv, lv) (ad, ln, m_aIntr iv mi t, lv) := by
  refine kv_start (cc := cX0_interrupt) (maxL := 2) (by decide) rfl (Nat.le_of_ble_eq_true rfl) ?_
  intro p9 e9 s m9 below meth c9 A ls hx hb hr hts hown hlocks hml hA hK hP hD hS hl
  have hl : lv_has ls 2 [(0, .ref (ad (14 + mi))), (1, .ref (ad (20 + 4 * mi + t)))] := hl
  have hown : s.vm.findClass "MonitorWays$Machine" = some m9.cls := hown
  have hin_X5 : ∀ w ∈ u_ws "MonitorWays$Worker" TX5 8, w ∈ wX0_interrupt := fun w h => tcons (inX5 w h)
  have lk_f36 := hts _ (tcons tw_58)
  have lk_f63 := hts _ (tcons tw_63)
  refine lv_aload_n hx hb dX0_interrupt_0 rfl (lv_at hl 1 rfl) ?_
  refine kr_get (C := "MonitorWays$Worker") (T := TX5) (N := 8) hx hb hts hin_X5 hown hK hP (20 + 4 * mi + t) (by omega) (E_wk (mi := mi) (t := t) hmi ht _ _ _ _) rfl 0 (by decide) lk_f36 (fun _ h9 => h9) rfl dX0_interrupt_1 ?_
  refine lv_iconst (v := 4) hx hb dX0_interrupt_4 (by decide) ?_
  refine lv_icmp_eq (tgt := 13) hx hb dX0_interrupt_5 (by decide) (fun c_1 => ?_) (fun c_1 => ?_)
  · exact kr_vret hx hb hr hlocks hK hP hD hS (by unfold m_aIntr; rw [if_pos c_1]) dX0_interrupt_13
  · refine lv_aload_n hx hb dX0_interrupt_8 rfl (lv_at hl 1 rfl) ?_
    refine lv_iconst (v := 1) hx hb dX0_interrupt_9 (by decide) ?_
    refine kr_put (C := "MonitorWays$Worker") (T := TX5) (N := 8) hx hb hts hin_X5 tyX5 ok_tyX5 ok_nX5 hown hK hP hD hS (20 + 4 * mi + t) (by omega) (fun _ => E_wk (mi := mi) (t := t) hmi ht _ _ _ _) rfl 3 (by decide) lk_f63 (fun _ h9 => h9) rfl rfl (by decide) (by decide) (fun _ => Nat.le_of_ble_eq_true rfl) (fun _ => rfl) dX0_interrupt_10 (fun H locs hP hD hS => ?_)
    exact kr_vret hx hb hr hlocks hK hP hD hS (by unfold m_aIntr; rw [if_neg c_1]) dX0_interrupt_13
def m_aUnpark (iv : Nat → Nat → Int32) (mi t : Nat) : Nat → Nat → Int32 := if iv (20 + 4 * mi + t) 0 = 3 then (m_wRunOn iv mi t) else if iv (20 + 4 * mi + t) 0 = 4 then iv else (up2 iv (20 + 4 * mi + t) 4 1)
set_option maxHeartbeats 4000000 in
set_option maxRecDepth 100000 in
theorem c_aUnpark (l : Launch) (D : va_G) (gc : Nat → ClassId) (ad ln : Nat → Nat) (iv : Nat → Nat → Int32) (lv : Nat → Nat → Int64) (mi t : Nat) (hmi : mi < 2) (ht : t < 4) : kMv l yX0_unpark wX0_unpark ({ frames := 1, cells := 0, slots := 0, locals := 20 }) D vwCl (kT gc) 42 (kE gc) [.ref (ad (14 + mi)), .ref (ad (20 + 4 * mi + t))] (ad, ln, iv, lv) (ad, ln, m_aUnpark iv mi t, lv) := by
  refine kv_start (cc := cX0_unpark) (maxL := 2) (by decide) rfl (Nat.le_of_ble_eq_true rfl) ?_
  intro p9 e9 s m9 below meth c9 A ls hx hb hr hts hown hlocks hml hA hK hP hD hS hl
  have hl : lv_has ls 2 [(0, .ref (ad (14 + mi))), (1, .ref (ad (20 + 4 * mi + t)))] := hl
  have hown : s.vm.findClass "MonitorWays$Machine" = some m9.cls := hown
  have hin_X5 : ∀ w ∈ u_ws "MonitorWays$Worker" TX5 8, w ∈ wX0_unpark := fun w h => tcons (inX5 w h)
  have lk_f36 := hts _ (tcons tw_58)
  have lk_f150 := hts _ (tcons tw_65)
  refine lv_aload_n hx hb dX0_unpark_0 rfl (lv_at hl 1 rfl) ?_
  refine kr_get (C := "MonitorWays$Worker") (T := TX5) (N := 8) hx hb hts hin_X5 hown hK hP (20 + 4 * mi + t) (by omega) (E_wk (mi := mi) (t := t) hmi ht _ _ _ _) rfl 0 (by decide) lk_f36 (fun _ h9 => h9) rfl dX0_unpark_1 ?_
  refine lv_iconst (v := 3) hx hb dX0_unpark_4 (by decide) ?_
  refine lv_icmp_ne (tgt := 15) hx hb dX0_unpark_5 (by decide) (fun c_1 => ?_) (fun c_1 => ?_)
  · refine lv_aload_n hx hb dX0_unpark_15 rfl (lv_at hl 1 rfl) ?_
    refine kr_get (C := "MonitorWays$Worker") (T := TX5) (N := 8) hx hb hts hin_X5 hown hK hP (20 + 4 * mi + t) (by omega) (E_wk (mi := mi) (t := t) hmi ht _ _ _ _) rfl 0 (by decide) lk_f36 (fun _ h9 => h9) rfl dX0_unpark_16 ?_
    refine lv_iconst (v := 4) hx hb dX0_unpark_19 (by decide) ?_
    refine lv_icmp_eq (tgt := 28) hx hb dX0_unpark_20 (by decide) (fun c_2 => ?_) (fun c_2 => ?_)
    · exact kr_vret hx hb hr hlocks hK hP hD hS (by unfold m_aUnpark; rw [if_neg c_1, if_pos c_2]) dX0_unpark_28
    · refine lv_aload_n hx hb dX0_unpark_23 rfl (lv_at hl 1 rfl) ?_
      refine lv_iconst (v := 1) hx hb dX0_unpark_24 (by decide) ?_
      refine kr_put (C := "MonitorWays$Worker") (T := TX5) (N := 8) hx hb hts hin_X5 tyX5 ok_tyX5 ok_nX5 hown hK hP hD hS (20 + 4 * mi + t) (by omega) (fun _ => E_wk (mi := mi) (t := t) hmi ht _ _ _ _) rfl 4 (by decide) lk_f150 (fun _ h9 => h9) rfl rfl (by decide) (by decide) (fun _ => Nat.le_of_ble_eq_true rfl) (fun _ => rfl) dX0_unpark_25 (fun H locs hP hD hS => ?_)
      exact kr_vret hx hb hr hlocks hK hP hD hS (by unfold m_aUnpark; rw [if_neg c_1, if_neg c_2]) dX0_unpark_28
  · refine lv_aload_n hx hb dX0_unpark_8 rfl (lv_at hl 1 rfl) ?_
    refine kr_callVv (As := []) (rest := []) ⟨hx, hb, hml, hown, hts⟩ (c_wRunOn l D gc ad ln iv lv mi t hmi ht) (cwV 0 hts (goodV (fun _ h => tcons h) tw_337 tw_338 tw_339 tw_4 tw_340) rfl rfl rfl (by decide +kernel) ⟨Nat.le_of_ble_eq_true rfl, Nat.le_of_ble_eq_true rfl⟩) (kr_recv hK hP (20 + 4 * mi + t) (by omega) (E_wk (mi := mi) (t := t) hmi ht _ _ _ _) rfl) hK hP hD hS hA rfl hl.1 rfl (Nat.le_of_ble_eq_true rfl) dX0_unpark_9 ⟨Nat.le_of_ble_eq_true rfl, Nat.le_of_ble_eq_true rfl⟩ (fun H locs hP hD hS => ?_)
    refine lv_goto (tgt := 28) hx hb dX0_unpark_12 (by decide) ?_
    exact kr_vret hx hb hr hlocks hK hP hD hS (by unfold m_aUnpark; rw [if_pos c_1]) dX0_unpark_28
set_option maxHeartbeats 4000000 in
set_option maxRecDepth 100000 in
theorem c_aMonOf (l : Launch) (D : va_G) (gc : Nat → ClassId) (ad ln : Nat → Nat) (iv : Nat → Nat → Int32) (lv : Nat → Nat → Int64) (mi t mm : Nat) (hmi : mi < 2) (ht : t < 4) (hmm : mm < 2) (hpl : vp_in (iv (20 + 4 * mi + t) 1) 6) (hop : r_wOperand iv mi t = nI mm) : kMr l yX0_monitorOf wX0_monitorOf ({ frames := 1, cells := 0, slots := 0, locals := 20 }) D vwCl (kT gc) 42 (kE gc) [.ref (ad (14 + mi)), .ref (ad (20 + 4 * mi + t))] (ad, ln, iv, lv) (ad, ln, iv, lv) (ad (28 + 2 * mi + mm)) := by
  refine kr_start (cc := cX0_monitorOf) (maxL := 2) (ret := (some (.object "MonitorWays$Monitor"))) (by decide) rfl (Nat.le_of_ble_eq_true rfl) ?_
  intro p9 e9 s m9 below meth c9 A ls hx hb hr hts hown hlocks hml hA hK hP hD hS hl
  have hl : lv_has ls 2 [(0, .ref (ad (14 + mi))), (1, .ref (ad (20 + 4 * mi + t)))] := hl
  have hown : s.vm.findClass "MonitorWays$Machine" = some m9.cls := hown
  have hin_X0 : ∀ w ∈ u_ws "MonitorWays$Machine" TX0 3, w ∈ wX0_monitorOf := fun w h => tcons (inX0 w h)
  have lk_f19 := hts _ (tcons tw_128)
  refine lv_aload_n hx hb dX0_monitorOf_0 rfl (lv_at hl 0 rfl) ?_
  refine kr_get (C := "MonitorWays$Machine") (T := TX0) (N := 3) hx hb hts hin_X0 hown hK hP (14 + mi) (by omega) (E_mach hmi _ _ _ _) rfl 1 (by decide) lk_f19 (fun _ h9 => h9) rfl dX0_monitorOf_1 ?_
  refine lv_aload_n hx hb dX0_monitorOf_4 rfl (lv_at hl 1 rfl) ?_
  refine kr_callVi (As := []) (rest := [.ref (ad (18 + mi))]) ⟨hx, hb, hml, hown, hts⟩ (c_wOperand l D gc ad ln iv lv mi t hmi ht hpl) (cwV 0 hts (goodV (fun _ h => tcons h) tw_268 tw_269 tw_270 tw_4 tw_271) rfl rfl rfl (by decide +kernel) ⟨Nat.le_of_ble_eq_true rfl, Nat.le_of_ble_eq_true rfl⟩) (kr_recv hK hP (20 + 4 * mi + t) (by omega) (E_wk (mi := mi) (t := t) hmi ht _ _ _ _) rfl) hK hP hD hS hA rfl hl.1 rfl (Nat.le_of_ble_eq_true rfl) dX0_monitorOf_5 ⟨Nat.le_of_ble_eq_true rfl, Nat.le_of_ble_eq_true rfl⟩ (fun H locs hP hD hS => ?_)
  refine kr_topi (y := nI mm) hop ?_
  refine kr_aald (a := ad (28 + 2 * mi + mm)) hx hb hK hP (18 + mi) 5 (by omega) (E_marr hmi _ _ _ _) rfl (vp_in_nI (n := mm) (by omega) (by decide)) (by rw [nI_clamp (show mm < 2 ^ 31 by omega)]) dX0_monitorOf_8 ?_
  exact kr_aret hx hb hr hlocks hK hP hD hS rfl rfl dX0_monitorOf_9
def m_aStopPark (iv : Nat → Nat → Int32) (mi t : Nat) (way : Int32) : Nat → Nat → Int32 := if way = 3 then (m_wRunOn (up2 iv (20 + 4 * mi + t) 5 1) mi t) else (m_wRunOn iv mi t)
set_option maxHeartbeats 4000000 in
set_option maxRecDepth 100000 in
theorem c_aStopPark (l : Launch) (D : va_G) (gc : Nat → ClassId) (ad ln : Nat → Nat) (iv : Nat → Nat → Int32) (lv : Nat → Nat → Int64) (mi t : Nat) (hmi : mi < 2) (ht : t < 4) (way : Int32) : kMv l yX0_stopParking wX0_stopParking ({ frames := 1, cells := 0, slots := 0, locals := 20 }) D vwCl (kT gc) 42 (kE gc) [.ref (ad (14 + mi)), .ref (ad (20 + 4 * mi + t)), .int way] (ad, ln, iv, lv) (ad, ln, m_aStopPark iv mi t way, lv) := by
  refine kv_start (cc := cX0_stopParking) (maxL := 3) (by decide) rfl (Nat.le_of_ble_eq_true rfl) ?_
  intro p9 e9 s m9 below meth c9 A ls hx hb hr hts hown hlocks hml hA hK hP hD hS hl
  have hl : lv_has ls 3 [(0, .ref (ad (14 + mi))), (1, .ref (ad (20 + 4 * mi + t))), (2, .int way)] := hl
  have hown : s.vm.findClass "MonitorWays$Machine" = some m9.cls := hown
  have hin_X5 : ∀ w ∈ u_ws "MonitorWays$Worker" TX5 8, w ∈ wX0_stopParking := fun w h => tcons (inX5 w h)
  have lk_f83 := hts _ (tcons tw_67)
  refine lv_iload_n hx hb dX0_stopParking_0 rfl (lv_at hl 2 rfl) ?_
  refine lv_iconst (v := 3) hx hb dX0_stopParking_1 (by decide) ?_
  refine lv_icmp_ne (tgt := 10) hx hb dX0_stopParking_2 (by decide) (fun c_1 => ?_) (fun c_1 => ?_)
  · refine lv_aload_n hx hb dX0_stopParking_10 rfl (lv_at hl 1 rfl) ?_
    refine kr_callVv (As := []) (rest := []) ⟨hx, hb, hml, hown, hts⟩ (c_wRunOn l D gc ad ln iv lv mi t hmi ht) (cwV 0 hts (goodV (fun _ h => tcons h) tw_337 tw_338 tw_339 tw_4 tw_340) rfl rfl rfl (by decide +kernel) ⟨Nat.le_of_ble_eq_true rfl, Nat.le_of_ble_eq_true rfl⟩) (kr_recv hK hP (20 + 4 * mi + t) (by omega) (E_wk (mi := mi) (t := t) hmi ht _ _ _ _) rfl) hK hP hD hS hA rfl hl.1 rfl (Nat.le_of_ble_eq_true rfl) dX0_stopParking_11 ⟨Nat.le_of_ble_eq_true rfl, Nat.le_of_ble_eq_true rfl⟩ (fun H locs hP hD hS => ?_)
    exact kr_vret hx hb hr hlocks hK hP hD hS (by unfold m_aStopPark; rw [if_neg c_1]) dX0_stopParking_14
  · refine lv_aload_n hx hb dX0_stopParking_5 rfl (lv_at hl 1 rfl) ?_
    refine lv_iconst (v := 1) hx hb dX0_stopParking_6 (by decide) ?_
    refine kr_put (C := "MonitorWays$Worker") (T := TX5) (N := 8) hx hb hts hin_X5 tyX5 ok_tyX5 ok_nX5 hown hK hP hD hS (20 + 4 * mi + t) (by omega) (fun _ => E_wk (mi := mi) (t := t) hmi ht _ _ _ _) rfl 5 (by decide) lk_f83 (fun _ h9 => h9) rfl rfl (by decide) (by decide) (fun _ => Nat.le_of_ble_eq_true rfl) (fun _ => rfl) dX0_stopParking_7 (fun H locs hP hD hS => ?_)
    refine lv_aload_n hx hb dX0_stopParking_10 rfl (lv_at hl 1 rfl) ?_
    refine kr_callVv (As := []) (rest := []) ⟨hx, hb, hml, hown, hts⟩ (c_wRunOn l D gc ad ln (up2 iv (20 + 4 * mi + t) 5 1) lv mi t hmi ht) (cwV 0 hts (goodV (fun _ h => tcons h) tw_337 tw_338 tw_339 tw_4 tw_340) rfl rfl rfl (by decide +kernel) ⟨Nat.le_of_ble_eq_true rfl, Nat.le_of_ble_eq_true rfl⟩) (kr_recv hK hP (20 + 4 * mi + t) (by omega) (E_wk (mi := mi) (t := t) hmi ht _ _ _ _) rfl) hK hP hD hS hA rfl hl.1 rfl (Nat.le_of_ble_eq_true rfl) dX0_stopParking_11 ⟨Nat.le_of_ble_eq_true rfl, Nat.le_of_ble_eq_true rfl⟩ (fun H locs hP hD hS => ?_)
    exact kr_vret hx hb hr hlocks hK hP hD hS (by unfold m_aStopPark; rw [if_pos c_1]) dX0_stopParking_14
def r_aWaitMay (iv : Nat → Nat → Int32) (mi t : Nat) (way : Int32) : Int32 := if way = 1 then iv (20 + 4 * mi + t) 3 else if way = 2 then (r_aStray iv mi t) else if way = 3 then (if (r_wAction iv mi t) = 3 then (1 : Int32) else 0) else 0
set_option maxHeartbeats 4000000 in
set_option maxRecDepth 100000 in
theorem c_aWaitMay (l : Launch) (D : va_G) (gc : Nat → ClassId) (ad ln : Nat → Nat) (iv : Nat → Nat → Int32) (lv : Nat → Nat → Int64) (mi t : Nat) (hmi : mi < 2) (ht : t < 4) (way : Int32) (hpl : vp_in (iv (20 + 4 * mi + t) 1) 6) (hz : narrow .boolean (.int (iv (20 + 4 * mi + t) 3)) = .int (iv (20 + 4 * mi + t) 3)) : kMi l yX0_waitingAllows wX0_waitingAllows ({ frames := 1, cells := 0, slots := 0, locals := 21 }) D vwCl (kT gc) 42 (kE gc) [.ref (ad (14 + mi)), .ref (ad (20 + 4 * mi + t)), .int way] (ad, ln, iv, lv) (ad, ln, iv, lv) (r_aWaitMay iv mi t way) := by
  refine ki_start (cc := cX0_waitingAllows) (maxL := 3) (ret := (some .boolean)) (by decide) rfl (Nat.le_of_ble_eq_true rfl) ?_
  intro p9 e9 s m9 below meth c9 A ls hx hb hr hts hown hlocks hml hA hK hP hD hS hl
  have hl : lv_has ls 3 [(0, .ref (ad (14 + mi))), (1, .ref (ad (20 + 4 * mi + t))), (2, .int way)] := hl
  have hown : s.vm.findClass "MonitorWays$Machine" = some m9.cls := hown
  have hin_X5 : ∀ w ∈ u_ws "MonitorWays$Worker" TX5 8, w ∈ wX0_waitingAllows := fun w h => tcons (inX5 w h)
  have lk_f63 := hts _ (tcons tw_63)
  refine lv_iload_n hx hb dX0_waitingAllows_0 rfl (lv_at hl 2 rfl) ?_
  by_cases c_1 : way = 1
  · refine lv_tableIn (tgt := 28) (off := 27) hx hb dX0_waitingAllows_1 (by rw [c_1]; decide) (by rw [c_1]; decide) (by rw [c_1]; decide) (by decide) ?_
    refine lv_aload_n hx hb dX0_waitingAllows_28 rfl (lv_at hl 1 rfl) ?_
    refine kr_get (C := "MonitorWays$Worker") (T := TX5) (N := 8) hx hb hts hin_X5 hown hK hP (20 + 4 * mi + t) (by omega) (E_wk (mi := mi) (t := t) hmi ht _ _ _ _) rfl 3 (by decide) lk_f63 (fun _ h9 => h9) rfl dX0_waitingAllows_29 ?_
    exact kr_zret hx hb hr hlocks hK hP hD hS hz (by unfold r_aWaitMay; rw [if_pos c_1]) rfl dX0_waitingAllows_32
  by_cases c_2 : way = 2
  · refine lv_tableIn (tgt := 33) (off := 32) hx hb dX0_waitingAllows_1 (by rw [c_2]; decide) (by rw [c_2]; decide) (by rw [c_2]; decide) (by decide) ?_
    refine lv_aload_n hx hb dX0_waitingAllows_33 rfl (lv_at hl 0 rfl) ?_
    refine lv_aload_n hx hb dX0_waitingAllows_34 rfl (lv_at hl 1 rfl) ?_
    refine kr_callVi (As := [.ref (ad (20 + 4 * mi + t))]) (rest := []) ⟨hx, hb, hml, hown, hts⟩ (c_aStray l D gc ad ln iv lv mi t hmi ht) (cwV 1 hts (goodV (fun _ h => tcons h) tw_288 tw_290 ts_5 tw_3 tw_291) rfl rfl rfl (by decide +kernel) ⟨Nat.le_of_ble_eq_true rfl, Nat.le_of_ble_eq_true rfl⟩) (kr_recv hK hP (14 + mi) (by omega) (E_mach hmi _ _ _ _) rfl) hK hP hD hS hA rfl hl.1 rfl (Nat.le_of_ble_eq_true rfl) dX0_waitingAllows_35 ⟨Nat.le_of_ble_eq_true rfl, Nat.le_of_ble_eq_true rfl⟩ (fun H locs hP hD hS => ?_)
    exact kr_zret hx hb hr hlocks hK hP hD hS (nb_aStray iv mi t) (by unfold r_aWaitMay; rw [if_neg c_1, if_pos c_2]) rfl dX0_waitingAllows_38
  by_cases c_3 : way = 3
  · refine lv_tableIn (tgt := 39) (off := 38) hx hb dX0_waitingAllows_1 (by rw [c_3]; decide) (by rw [c_3]; decide) (by rw [c_3]; decide) (by decide) ?_
    refine lv_aload_n hx hb dX0_waitingAllows_39 rfl (lv_at hl 1 rfl) ?_
    refine kr_callVi (As := []) (rest := []) ⟨hx, hb, hml, hown, hts⟩ (c_wAction l D gc ad ln iv lv mi t hmi ht hpl) (cwV 0 hts (goodV (fun _ h => tcons h) tw_256 tw_257 tw_258 tw_4 tw_259) rfl rfl rfl (by decide +kernel) ⟨Nat.le_of_ble_eq_true rfl, Nat.le_of_ble_eq_true rfl⟩) (kr_recv hK hP (20 + 4 * mi + t) (by omega) (E_wk (mi := mi) (t := t) hmi ht _ _ _ _) rfl) hK hP hD hS hA rfl hl.1 rfl (Nat.le_of_ble_eq_true rfl) dX0_waitingAllows_40 ⟨Nat.le_of_ble_eq_true rfl, Nat.le_of_ble_eq_true rfl⟩ (fun H locs hP hD hS => ?_)
    refine lv_iconst (v := 3) hx hb dX0_waitingAllows_43 (by decide) ?_
    refine kr_tern (M := 52) (cnd := (r_wAction iv mi t) = 3) (a := 1) (b := 0) (rest := []) (fun ja jb => ?_) ?_
    · refine lv_icmp_ne (tgt := 51) hx hb dX0_waitingAllows_44 (by decide) (fun c_4 => ?_) (fun c_4 => ?_)
      · refine lv_iconst (v := 0) hx hb dX0_waitingAllows_51 (by decide) ?_
        exact jb c_4
      · refine lv_iconst (v := 1) hx hb dX0_waitingAllows_47 (by decide) ?_
        refine lv_goto (tgt := 52) hx hb dX0_waitingAllows_48 (by decide) ?_
        exact ja c_4
    exact kr_zret hx hb hr hlocks hK hP hD hS (nb_ite (by decide) (by decide)) (by unfold r_aWaitMay; rw [if_neg c_1, if_neg c_2, if_pos c_3]) rfl dX0_waitingAllows_52
  refine lv_tableOut (tgt := 53) hx hb dX0_waitingAllows_1 (sw_1_3 c_1 c_2 c_3) (by decide) ?_
  refine lv_iconst (v := 0) hx hb dX0_waitingAllows_53 (by decide) ?_
  exact kr_zret hx hb hr hlocks hK hP hD hS (by decide) (by unfold r_aWaitMay; rw [if_neg c_1, if_neg c_2, if_neg c_3]) rfl dX0_waitingAllows_54
def r_aPlainMay (iv : Nat → Nat → Int32) (mi t u : Nat) (way : Int32) : Int32 := if (r_wAction iv mi t) = 9 then if iv (20 + 4 * mi + t) 3 = 0 then if way = 0 then (if (r_aEnded iv mi u) = 0 then (0 : Int32) else 1) else 0 else (if way = 0 then (1 : Int32) else 0) else (if way = 0 then (1 : Int32) else 0)
theorem nb_aPlainMay (iv : Nat → Nat → Int32) (mi t u : Nat) (way : Int32) : narrow .boolean (.int (r_aPlainMay iv mi t u way)) = .int (r_aPlainMay iv mi t u way) := by
  unfold r_aPlainMay; repeat' split
  all_goals rfl
set_option maxHeartbeats 4000000 in
set_option maxRecDepth 100000 in
theorem c_aPlainMay (l : Launch) (D : va_G) (gc : Nat → ClassId) (ad ln : Nat → Nat) (iv : Nat → Nat → Int32) (lv : Nat → Nat → Int64) (mi t u : Nat) (hmi : mi < 2) (ht : t < 4) (hu : u < 4) (way : Int32) (hpl : vp_in (iv (20 + 4 * mi + t) 1) 6) (hou : r_wAction iv mi t = 9 → r_wOperand iv mi t = nI u) : kMi l yX0_plainActionAllows wX0_plainActionAllows ({ frames := 1, cells := 0, slots := 0, locals := 21 }) D vwCl (kT gc) 42 (kE gc) [.ref (ad (14 + mi)), .ref (ad (20 + 4 * mi + t)), .int way] (ad, ln, iv, lv) (ad, ln, iv, lv) (r_aPlainMay iv mi t u way) := by
  refine ki_start (cc := cX0_plainActionAllows) (maxL := 3) (ret := (some .boolean)) (by decide) rfl (Nat.le_of_ble_eq_true rfl) ?_
  intro p9 e9 s m9 below meth c9 A ls hx hb hr hts hown hlocks hml hA hK hP hD hS hl
  have hl : lv_has ls 3 [(0, .ref (ad (14 + mi))), (1, .ref (ad (20 + 4 * mi + t))), (2, .int way)] := hl
  have hown : s.vm.findClass "MonitorWays$Machine" = some m9.cls := hown
  have hin_X5 : ∀ w ∈ u_ws "MonitorWays$Worker" TX5 8, w ∈ wX0_plainActionAllows := fun w h => tcons (inX5 w h)
  have lk_f63 := hts _ (tcons tw_63)
  refine lv_aload_n hx hb dX0_plainActionAllows_0 rfl (lv_at hl 1 rfl) ?_
  refine kr_callVi (As := []) (rest := []) ⟨hx, hb, hml, hown, hts⟩ (c_wAction l D gc ad ln iv lv mi t hmi ht hpl) (cwV 0 hts (goodV (fun _ h => tcons h) tw_256 tw_257 tw_258 tw_4 tw_259) rfl rfl rfl (by decide +kernel) ⟨Nat.le_of_ble_eq_true rfl, Nat.le_of_ble_eq_true rfl⟩) (kr_recv hK hP (20 + 4 * mi + t) (by omega) (E_wk (mi := mi) (t := t) hmi ht _ _ _ _) rfl) hK hP hD hS hA rfl hl.1 rfl (Nat.le_of_ble_eq_true rfl) dX0_plainActionAllows_1 ⟨Nat.le_of_ble_eq_true rfl, Nat.le_of_ble_eq_true rfl⟩ (fun H locs hP hD hS => ?_)
  refine lv_bipush (v := 9) hx hb dX0_plainActionAllows_4 (by decide) ?_
  refine lv_icmp_ne (tgt := 37) hx hb dX0_plainActionAllows_6 (by decide) (fun c_1 => ?_) (fun c_1 => ?_)
  · refine lv_iload_n hx hb dX0_plainActionAllows_37 rfl (lv_at hl 2 rfl) ?_
    refine kr_tern (M := 46) (cnd := way = 0) (a := 1) (b := 0) (rest := []) (fun ja jb => ?_) ?_
    · refine lv_if_ne (tgt := 45) hx hb dX0_plainActionAllows_38 (by decide) (fun c_2 => ?_) (fun c_2 => ?_)
      · refine lv_iconst (v := 0) hx hb dX0_plainActionAllows_45 (by decide) ?_
        exact jb c_2
      · refine lv_iconst (v := 1) hx hb dX0_plainActionAllows_41 (by decide) ?_
        refine lv_goto (tgt := 46) hx hb dX0_plainActionAllows_42 (by decide) ?_
        exact ja c_2
    exact kr_zret hx hb hr hlocks hK hP hD hS (nb_ite (by decide) (by decide)) (by unfold r_aPlainMay; rw [if_neg c_1]) rfl dX0_plainActionAllows_46
  · refine lv_aload_n hx hb dX0_plainActionAllows_9 rfl (lv_at hl 1 rfl) ?_
    refine kr_get (C := "MonitorWays$Worker") (T := TX5) (N := 8) hx hb hts hin_X5 hown hK hP (20 + 4 * mi + t) (by omega) (E_wk (mi := mi) (t := t) hmi ht _ _ _ _) rfl 3 (by decide) lk_f63 (fun _ h9 => h9) rfl dX0_plainActionAllows_10 ?_
    refine lv_if_ne (tgt := 37) hx hb dX0_plainActionAllows_13 (by decide) (fun c_3 => ?_) (fun c_3 => ?_)
    · refine lv_iload_n hx hb dX0_plainActionAllows_37 rfl (lv_at hl 2 rfl) ?_
      refine kr_tern (M := 46) (cnd := way = 0) (a := 1) (b := 0) (rest := []) (fun ja jb => ?_) ?_
      · refine lv_if_ne (tgt := 45) hx hb dX0_plainActionAllows_38 (by decide) (fun c_4 => ?_) (fun c_4 => ?_)
        · refine lv_iconst (v := 0) hx hb dX0_plainActionAllows_45 (by decide) ?_
          exact jb c_4
        · refine lv_iconst (v := 1) hx hb dX0_plainActionAllows_41 (by decide) ?_
          refine lv_goto (tgt := 46) hx hb dX0_plainActionAllows_42 (by decide) ?_
          exact ja c_4
      exact kr_zret hx hb hr hlocks hK hP hD hS (nb_ite (by decide) (by decide)) (by unfold r_aPlainMay; rw [if_pos c_1, if_neg c_3]) rfl dX0_plainActionAllows_46
    · refine lv_iload_n hx hb dX0_plainActionAllows_16 rfl (lv_at hl 2 rfl) ?_
      refine lv_if_ne (tgt := 35) hx hb dX0_plainActionAllows_17 (by decide) (fun c_5 => ?_) (fun c_5 => ?_)
      · refine lv_iconst (v := 0) hx hb dX0_plainActionAllows_35 (by decide) ?_
        exact kr_zret hx hb hr hlocks hK hP hD hS (by decide) (by unfold r_aPlainMay; rw [if_pos c_1, if_pos c_3, if_neg c_5]) rfl dX0_plainActionAllows_36
      · refine lv_aload_n hx hb dX0_plainActionAllows_20 rfl (lv_at hl 0 rfl) ?_
        refine lv_aload_n hx hb dX0_plainActionAllows_21 rfl (lv_at hl 1 rfl) ?_
        refine kr_callVi (As := []) (rest := [.ref (ad (14 + mi))]) ⟨hx, hb, hml, hown, hts⟩ (c_wOperand l D gc ad ln iv lv mi t hmi ht hpl) (cwV 0 hts (goodV (fun _ h => tcons h) tw_268 tw_269 tw_270 tw_4 tw_271) rfl rfl rfl (by decide +kernel) ⟨Nat.le_of_ble_eq_true rfl, Nat.le_of_ble_eq_true rfl⟩) (kr_recv hK hP (20 + 4 * mi + t) (by omega) (E_wk (mi := mi) (t := t) hmi ht _ _ _ _) rfl) hK hP hD hS hA rfl hl.1 rfl (Nat.le_of_ble_eq_true rfl) dX0_plainActionAllows_22 ⟨Nat.le_of_ble_eq_true rfl, Nat.le_of_ble_eq_true rfl⟩ (fun H locs hP hD hS => ?_)
        refine kr_topi (y := nI u) (hou c_1) ?_
        refine kr_callVi (As := [.int (nI u)]) (rest := []) ⟨hx, hb, hml, hown, hts⟩ (c_aEnded l D gc ad ln iv lv mi u hmi (by omega)) (cwV 1 hts (goodV (fun _ h => tcons h) tw_280 tw_281 tw_282 tw_3 tw_283) rfl rfl rfl (by decide +kernel) ⟨Nat.le_of_ble_eq_true rfl, Nat.le_of_ble_eq_true rfl⟩) (kr_recv hK hP (14 + mi) (by omega) (E_mach hmi _ _ _ _) rfl) hK hP hD hS hA rfl hl.1 rfl (Nat.le_of_ble_eq_true rfl) dX0_plainActionAllows_25 ⟨Nat.le_of_ble_eq_true rfl, Nat.le_of_ble_eq_true rfl⟩ (fun H locs hP hD hS => ?_)
        refine kr_tern (M := 36) (cnd := (r_aEnded iv mi u) = 0) (a := 0) (b := 1) (rest := []) (fun ja jb => ?_) ?_
        · refine lv_if_eq (tgt := 35) hx hb dX0_plainActionAllows_28 (by decide) (fun c_6 => ?_) (fun c_6 => ?_)
          · refine lv_iconst (v := 0) hx hb dX0_plainActionAllows_35 (by decide) ?_
            exact ja c_6
          · refine lv_iconst (v := 1) hx hb dX0_plainActionAllows_31 (by decide) ?_
            refine lv_goto (tgt := 36) hx hb dX0_plainActionAllows_32 (by decide) ?_
            exact jb c_6
        exact kr_zret hx hb hr hlocks hK hP hD hS (nb_ite (by decide) (by decide)) (by unfold r_aPlainMay; rw [if_pos c_1, if_pos c_3, if_pos c_5]) rfl dX0_plainActionAllows_36
def r_aMonMay (iv : Nat → Nat → Int32) (mi t mm : Nat) (way : Int32) : Int32 := if (r_wAction iv mi t) = 4 then if (if iv (28 + 2 * mi + mm) 0 = nI t then (1 : Int32) else 0) = 0 then if way = 0 then if (r_wAction iv mi t) = 0 then (if (r_mIsFree iv mi mm) = 0 then (0 : Int32) else 1) else 1 else 0 else if iv (28 + 2 * mi + mm) 2 ≤ 0 then if way = 0 then if (r_wAction iv mi t) = 0 then 1 else 1 else 0 else if way = 1 then 1 else (if way = 2 then (1 : Int32) else 0) else if way = 0 then if (r_wAction iv mi t) = 0 then if (if iv (28 + 2 * mi + mm) 0 = nI t then (1 : Int32) else 0) = 0 then (if (r_mIsFree iv mi mm) = 0 then (0 : Int32) else 1) else 1 else 1 else 0
theorem nb_aMonMay (iv : Nat → Nat → Int32) (mi t mm : Nat) (way : Int32) : narrow .boolean (.int (r_aMonMay iv mi t mm way)) = .int (r_aMonMay iv mi t mm way) := by
  unfold r_aMonMay; repeat' split
  all_goals rfl
set_option maxHeartbeats 4000000 in
set_option maxRecDepth 100000 in
theorem c_aMonMay (l : Launch) (D : va_G) (gc : Nat → ClassId) (ad ln : Nat → Nat) (iv : Nat → Nat → Int32) (lv : Nat → Nat → Int64) (mi t mm : Nat) (hmi : mi < 2) (ht : t < 4) (hmm : mm < 2) (way : Int32) (hpl : vp_in (iv (20 + 4 * mi + t) 1) 6) (hop : r_wOperand iv mi t = nI mm) : kMi l yX0_monitorUseAllows wX0_monitorUseAllows ({ frames := 2, cells := 0, slots := 0, locals := 41 }) D vwCl (kT gc) 42 (kE gc) [.ref (ad (14 + mi)), .int (nI t), .int way] (ad, ln, iv, lv) (ad, ln, iv, lv) (r_aMonMay iv mi t mm way) := by
  refine ki_start (cc := cX0_monitorUseAllows) (maxL := 6) (ret := (some .boolean)) (by decide) rfl (Nat.le_of_ble_eq_true rfl) ?_
  intro p9 e9 s m9 below meth c9 A ls hx hb hr hts hown hlocks hml hA hK hP hD hS hl
  have hl : lv_has ls 6 [(0, .ref (ad (14 + mi))), (1, .int (nI t)), (2, .int way)] := hl
  have hown : s.vm.findClass "MonitorWays$Machine" = some m9.cls := hown
  have hin_X0 : ∀ w ∈ u_ws "MonitorWays$Machine" TX0 3, w ∈ wX0_monitorUseAllows := fun w h => tcons (inX0 w h)
  have hin_X1 : ∀ w ∈ u_ws "MonitorWays$Monitor" TX1 4, w ∈ wX0_monitorUseAllows := fun w h => tcons (inX1 w h)
  have lk_f11 := hts _ (tcons tw_126)
  have lk_f70 := hts _ (tcons tw_93)
  have lk_f73 := hts _ (tcons tw_99)
  refine lv_aload_n hx hb dX0_monitorUseAllows_0 rfl (lv_at hl 0 rfl) ?_
  refine kr_get (C := "MonitorWays$Machine") (T := TX0) (N := 3) hx hb hts hin_X0 hown hK hP (14 + mi) (by omega) (E_mach hmi _ _ _ _) rfl 0 (by decide) lk_f11 (fun _ h9 => h9) rfl dX0_monitorUseAllows_1 ?_
  refine lv_iload_n hx hb dX0_monitorUseAllows_4 rfl (lv_at hl 1 rfl) ?_
  refine kr_aald (a := ad (20 + 4 * mi + t)) hx hb hK hP (16 + mi) 4 (by omega) (E_warr hmi _ _ _ _) rfl (vp_in_nI (n := t) (by omega) (by decide)) (by rw [nI_clamp (show t < 2 ^ 31 by omega)]) dX0_monitorUseAllows_5 ?_
  refine kr_callVi (As := []) (rest := []) ⟨hx, hb, hml, hown, hts⟩ (c_wAction l D gc ad ln iv lv mi t hmi (by omega) hpl) (cwV 0 hts (goodV (fun _ h => tcons h) tw_256 tw_257 tw_258 tw_4 tw_259) rfl rfl rfl (by decide +kernel) ⟨Nat.le_of_ble_eq_true rfl, Nat.le_of_ble_eq_true rfl⟩) (kr_recv hK hP (20 + 4 * mi + t) (by omega) (E_wk (mi := mi) (t := t) hmi (by omega) _ _ _ _) rfl) hK hP hD hS hA rfl hl.1 rfl (Nat.le_of_ble_eq_true rfl) dX0_monitorUseAllows_6 ⟨Nat.le_of_ble_eq_true rfl, Nat.le_of_ble_eq_true rfl⟩ (fun H locs hP hD hS => ?_)
  refine lv_istore_n (lv' := [(3, .int (r_wAction iv mi t)), (0, .ref (ad (14 + mi))), (1, .int (nI t)), (2, .int way)]) hx hb dX0_monitorUseAllows_9 rfl hl (by decide) rfl (fun ls hl => ?_)
  refine lv_aload_n hx hb dX0_monitorUseAllows_10 rfl (lv_at hl 1 rfl) ?_
  refine lv_aload_n hx hb dX0_monitorUseAllows_11 rfl (lv_at hl 1 rfl) ?_
  refine kr_get (C := "MonitorWays$Machine") (T := TX0) (N := 3) hx hb hts hin_X0 hown hK hP (14 + mi) (by omega) (E_mach hmi _ _ _ _) rfl 0 (by decide) lk_f11 (fun _ h9 => h9) rfl dX0_monitorUseAllows_12 ?_
  refine lv_iload_n hx hb dX0_monitorUseAllows_15 rfl (lv_at hl 2 rfl) ?_
  refine kr_aald (a := ad (20 + 4 * mi + t)) hx hb hK hP (16 + mi) 4 (by omega) (E_warr hmi _ _ _ _) rfl (vp_in_nI (n := t) (by omega) (by decide)) (by rw [nI_clamp (show t < 2 ^ 31 by omega)]) dX0_monitorUseAllows_16 ?_
  refine kr_callVr (As := [.ref (ad (20 + 4 * mi + t))]) (rest := []) ⟨hx, hb, hml, hown, hts⟩ (c_aMonOf l D gc ad ln iv lv mi t mm hmi (by omega) hmm hpl hop) (cwV 1 hts (goodV (fun _ h => tcons h) tw_264 tw_266 ts_2 tw_3 tw_267) rfl rfl rfl (by decide +kernel) ⟨Nat.le_of_ble_eq_true rfl, Nat.le_of_ble_eq_true rfl⟩) (kr_recv hK hP (14 + mi) (by omega) (E_mach hmi _ _ _ _) rfl) hK hP hD hS hA rfl hl.1 rfl (Nat.le_of_ble_eq_true rfl) dX0_monitorUseAllows_17 ⟨Nat.le_of_ble_eq_true rfl, Nat.le_of_ble_eq_true rfl⟩ (fun H locs hP hD hS => ?_)
  refine lv_astore (lv' := [(4, .ref (ad (28 + 2 * mi + mm))), (3, .int (r_wAction iv mi t)), (0, .ref (ad (14 + mi))), (1, .int (nI t)), (2, .int way)]) hx hb dX0_monitorUseAllows_20 hl (by decide) rfl (fun ls hl => ?_)
  refine lv_aload hx hb dX0_monitorUseAllows_22 (lv_at hl 0 rfl) ?_
  refine kr_get (C := "MonitorWays$Monitor") (T := TX1) (N := 4) hx hb hts hin_X1 hown hK hP (28 + 2 * mi + mm) (by omega) (E_mon (mi := mi) (m := mm) hmi hmm _ _ _ _) rfl 0 (by decide) lk_f70 (fun _ h9 => h9) rfl dX0_monitorUseAllows_24 ?_
  refine lv_iload_n hx hb dX0_monitorUseAllows_27 rfl (lv_at hl 3 rfl) ?_
  refine kr_tern (M := 36) (cnd := iv (28 + 2 * mi + mm) 0 = nI t) (a := 1) (b := 0) (rest := []) (fun ja jb => ?_) ?_
  · refine lv_icmp_ne (tgt := 35) hx hb dX0_monitorUseAllows_28 (by decide) (fun c_1 => ?_) (fun c_1 => ?_)
    · refine lv_iconst (v := 0) hx hb dX0_monitorUseAllows_35 (by decide) ?_
      exact jb c_1
    · refine lv_iconst (v := 1) hx hb dX0_monitorUseAllows_31 (by decide) ?_
      refine lv_goto (tgt := 36) hx hb dX0_monitorUseAllows_32 (by decide) ?_
      exact ja c_1
  refine lv_istore (lv' := [(5, .int (if iv (28 + 2 * mi + mm) 0 = nI t then (1 : Int32) else 0)), (4, .ref (ad (28 + 2 * mi + mm))), (3, .int (r_wAction iv mi t)), (0, .ref (ad (14 + mi))), (1, .int (nI t)), (2, .int way)]) hx hb dX0_monitorUseAllows_36 hl (by decide) rfl (fun ls hl => ?_)
  refine lv_iload_n hx hb dX0_monitorUseAllows_38 rfl (lv_at hl 2 rfl) ?_
  refine lv_iconst (v := 4) hx hb dX0_monitorUseAllows_39 (by decide) ?_
  refine lv_icmp_ne (tgt := 72) hx hb dX0_monitorUseAllows_40 (by decide) (fun c_2 => ?_) (fun c_2 => ?_)
  · refine lv_iload_n hx hb dX0_monitorUseAllows_72 rfl (lv_at hl 5 rfl) ?_
    refine lv_if_ne (tgt := 97) hx hb dX0_monitorUseAllows_73 (by decide) (fun c_3 => ?_) (fun c_3 => ?_)
    · refine lv_iconst (v := 0) hx hb dX0_monitorUseAllows_97 (by decide) ?_
      exact kr_zret hx hb hr hlocks hK hP hD hS (by decide) (by unfold r_aMonMay; rw [if_neg c_2, if_neg c_3]) rfl dX0_monitorUseAllows_98
    · refine lv_iload_n hx hb dX0_monitorUseAllows_76 rfl (lv_at hl 2 rfl) ?_
      refine lv_if_ne (tgt := 93) hx hb dX0_monitorUseAllows_77 (by decide) (fun c_4 => ?_) (fun c_4 => ?_)
      · refine lv_iconst (v := 1) hx hb dX0_monitorUseAllows_93 (by decide) ?_
        refine lv_goto (tgt := 98) hx hb dX0_monitorUseAllows_94 (by decide) ?_
        exact kr_zret hx hb hr hlocks hK hP hD hS (by decide) (by unfold r_aMonMay; rw [if_neg c_2, if_pos c_3, if_neg c_4]) rfl dX0_monitorUseAllows_98
      · refine lv_iload hx hb dX0_monitorUseAllows_80 (lv_at hl 0 rfl) ?_
        refine lv_if_ne (tgt := 93) hx hb dX0_monitorUseAllows_82 (by decide) (fun c_5 => ?_) (fun c_5 => ?_)
        · refine lv_iconst (v := 1) hx hb dX0_monitorUseAllows_93 (by decide) ?_
          refine lv_goto (tgt := 98) hx hb dX0_monitorUseAllows_94 (by decide) ?_
          exact kr_zret hx hb hr hlocks hK hP hD hS (by decide) (by unfold r_aMonMay; rw [if_neg c_2, if_pos c_3, if_pos c_4, if_neg c_5]) rfl dX0_monitorUseAllows_98
        · refine lv_aload hx hb dX0_monitorUseAllows_85 (lv_at hl 1 rfl) ?_
          refine kr_callVi (As := []) (rest := []) ⟨hx, hb, hml, hown, hts⟩ (c_mIsFree l D gc ad ln iv lv mi mm hmi hmm) (cwV 0 hts (goodV (fun _ h => tcons h) tw_272 tw_273 tw_274 tw_5 tw_275) rfl rfl rfl (by decide +kernel) ⟨Nat.le_of_ble_eq_true rfl, Nat.le_of_ble_eq_true rfl⟩) (kr_recv hK hP (28 + 2 * mi + mm) (by omega) (E_mon (mi := mi) (m := mm) hmi hmm _ _ _ _) rfl) hK hP hD hS hA rfl hl.1 rfl (Nat.le_of_ble_eq_true rfl) dX0_monitorUseAllows_87 ⟨Nat.le_of_ble_eq_true rfl, Nat.le_of_ble_eq_true rfl⟩ (fun H locs hP hD hS => ?_)
          refine kr_tern (M := 98) (cnd := (r_mIsFree iv mi mm) = 0) (a := 0) (b := 1) (rest := []) (fun ja jb => ?_) ?_
          · refine lv_if_eq (tgt := 97) hx hb dX0_monitorUseAllows_90 (by decide) (fun c_6 => ?_) (fun c_6 => ?_)
            · refine lv_iconst (v := 0) hx hb dX0_monitorUseAllows_97 (by decide) ?_
              exact ja c_6
            · refine lv_iconst (v := 1) hx hb dX0_monitorUseAllows_93 (by decide) ?_
              refine lv_goto (tgt := 98) hx hb dX0_monitorUseAllows_94 (by decide) ?_
              exact jb c_6
          exact kr_zret hx hb hr hlocks hK hP hD hS (nb_ite (by decide) (by decide)) (by unfold r_aMonMay; rw [if_neg c_2, if_pos c_3, if_pos c_4, if_pos c_5]) rfl dX0_monitorUseAllows_98
  · refine lv_iload hx hb dX0_monitorUseAllows_43 (lv_at hl 0 rfl) ?_
    refine lv_if_eq (tgt := 72) hx hb dX0_monitorUseAllows_45 (by decide) (fun c_7 => ?_) (fun c_7 => ?_)
    · refine lv_iload_n hx hb dX0_monitorUseAllows_72 rfl (lv_at hl 5 rfl) ?_
      refine lv_if_ne (tgt := 97) hx hb dX0_monitorUseAllows_73 (by decide) (fun c_8 => ?_) (fun c_8 => ?_)
      · refine lv_iconst (v := 0) hx hb dX0_monitorUseAllows_97 (by decide) ?_
        exact kr_zret hx hb hr hlocks hK hP hD hS (by decide) (by unfold r_aMonMay; rw [if_pos c_2, if_pos c_7, if_neg c_8]) rfl dX0_monitorUseAllows_98
      · refine lv_iload_n hx hb dX0_monitorUseAllows_76 rfl (lv_at hl 2 rfl) ?_
        refine lv_if_ne (tgt := 93) hx hb dX0_monitorUseAllows_77 (by decide) (fun c_9 => ?_) (fun c_9 => ?_)
        · refine lv_iconst (v := 1) hx hb dX0_monitorUseAllows_93 (by decide) ?_
          refine lv_goto (tgt := 98) hx hb dX0_monitorUseAllows_94 (by decide) ?_
          exact kr_zret hx hb hr hlocks hK hP hD hS (by decide) (by unfold r_aMonMay; rw [if_pos c_2, if_pos c_7, if_pos c_8, if_neg c_9]) rfl dX0_monitorUseAllows_98
        · refine lv_iload hx hb dX0_monitorUseAllows_80 (lv_at hl 0 rfl) ?_
          refine lv_if_ne (tgt := 93) hx hb dX0_monitorUseAllows_82 (by decide) (fun c_10 => absurd c_7 c_10) (fun c_10 => ?_)
          refine lv_aload hx hb dX0_monitorUseAllows_85 (lv_at hl 1 rfl) ?_
          refine kr_callVi (As := []) (rest := []) ⟨hx, hb, hml, hown, hts⟩ (c_mIsFree l D gc ad ln iv lv mi mm hmi hmm) (cwV 0 hts (goodV (fun _ h => tcons h) tw_272 tw_273 tw_274 tw_5 tw_275) rfl rfl rfl (by decide +kernel) ⟨Nat.le_of_ble_eq_true rfl, Nat.le_of_ble_eq_true rfl⟩) (kr_recv hK hP (28 + 2 * mi + mm) (by omega) (E_mon (mi := mi) (m := mm) hmi hmm _ _ _ _) rfl) hK hP hD hS hA rfl hl.1 rfl (Nat.le_of_ble_eq_true rfl) dX0_monitorUseAllows_87 ⟨Nat.le_of_ble_eq_true rfl, Nat.le_of_ble_eq_true rfl⟩ (fun H locs hP hD hS => ?_)
          refine kr_tern (M := 98) (cnd := (r_mIsFree iv mi mm) = 0) (a := 0) (b := 1) (rest := []) (fun ja jb => ?_) ?_
          · refine lv_if_eq (tgt := 97) hx hb dX0_monitorUseAllows_90 (by decide) (fun c_11 => ?_) (fun c_11 => ?_)
            · refine lv_iconst (v := 0) hx hb dX0_monitorUseAllows_97 (by decide) ?_
              exact ja c_11
            · refine lv_iconst (v := 1) hx hb dX0_monitorUseAllows_93 (by decide) ?_
              refine lv_goto (tgt := 98) hx hb dX0_monitorUseAllows_94 (by decide) ?_
              exact jb c_11
          exact kr_zret hx hb hr hlocks hK hP hD hS (nb_ite (by decide) (by decide)) (by unfold r_aMonMay; rw [if_pos c_2, if_pos c_7, if_pos c_8, if_pos c_9]) rfl dX0_monitorUseAllows_98
    · refine lv_aload hx hb dX0_monitorUseAllows_48 (lv_at hl 1 rfl) ?_
      refine kr_get (C := "MonitorWays$Monitor") (T := TX1) (N := 4) hx hb hts hin_X1 hown hK hP (28 + 2 * mi + mm) (by omega) (E_mon (mi := mi) (m := mm) hmi hmm _ _ _ _) rfl 2 (by decide) lk_f73 (fun _ h9 => h9) rfl dX0_monitorUseAllows_50 ?_
      refine lv_if_le (tgt := 72) hx hb dX0_monitorUseAllows_53 (by decide) (fun c_12 => ?_) (fun c_12 => ?_)
      · refine lv_iload_n hx hb dX0_monitorUseAllows_72 rfl (lv_at hl 5 rfl) ?_
        refine lv_if_ne (tgt := 97) hx hb dX0_monitorUseAllows_73 (by decide) (fun c_13 => ?_) (fun c_13 => ?_)
        · refine lv_iconst (v := 0) hx hb dX0_monitorUseAllows_97 (by decide) ?_
          exact kr_zret hx hb hr hlocks hK hP hD hS (by decide) (by unfold r_aMonMay; rw [if_pos c_2, if_neg c_7, if_pos c_12, if_neg c_13]) rfl dX0_monitorUseAllows_98
        · refine lv_iload_n hx hb dX0_monitorUseAllows_76 rfl (lv_at hl 2 rfl) ?_
          refine lv_if_ne (tgt := 93) hx hb dX0_monitorUseAllows_77 (by decide) (fun c_14 => ?_) (fun c_14 => ?_)
          · refine lv_iconst (v := 1) hx hb dX0_monitorUseAllows_93 (by decide) ?_
            refine lv_goto (tgt := 98) hx hb dX0_monitorUseAllows_94 (by decide) ?_
            exact kr_zret hx hb hr hlocks hK hP hD hS (by decide) (by unfold r_aMonMay; rw [if_pos c_2, if_neg c_7, if_pos c_12, if_pos c_13, if_neg c_14]) rfl dX0_monitorUseAllows_98
          · refine lv_iload hx hb dX0_monitorUseAllows_80 (lv_at hl 0 rfl) ?_
            refine lv_if_ne (tgt := 93) hx hb dX0_monitorUseAllows_82 (by decide) (fun c_15 => ?_) (fun c_15 => absurd c_15 c_7)
            refine lv_iconst (v := 1) hx hb dX0_monitorUseAllows_93 (by decide) ?_
            refine lv_goto (tgt := 98) hx hb dX0_monitorUseAllows_94 (by decide) ?_
            exact kr_zret hx hb hr hlocks hK hP hD hS (by decide) (by unfold r_aMonMay; rw [if_pos c_2, if_neg c_7, if_pos c_12, if_pos c_13, if_pos c_14]) rfl dX0_monitorUseAllows_98
      · refine lv_iload_n hx hb dX0_monitorUseAllows_56 rfl (lv_at hl 5 rfl) ?_
        refine lv_iconst (v := 1) hx hb dX0_monitorUseAllows_57 (by decide) ?_
        refine lv_icmp_eq (tgt := 66) hx hb dX0_monitorUseAllows_58 (by decide) (fun c_16 => ?_) (fun c_16 => ?_)
        · refine lv_iconst (v := 1) hx hb dX0_monitorUseAllows_66 (by decide) ?_
          refine lv_goto (tgt := 71) hx hb dX0_monitorUseAllows_67 (by decide) ?_
          exact kr_zret hx hb hr hlocks hK hP hD hS (by decide) (by unfold r_aMonMay; rw [if_pos c_2, if_neg c_7, if_neg c_12, if_pos c_16]) rfl dX0_monitorUseAllows_71
        · refine lv_iload_n hx hb dX0_monitorUseAllows_61 rfl (lv_at hl 5 rfl) ?_
          refine lv_iconst (v := 2) hx hb dX0_monitorUseAllows_62 (by decide) ?_
          refine kr_tern (M := 71) (cnd := way = 2) (a := 1) (b := 0) (rest := []) (fun ja jb => ?_) ?_
          · refine lv_icmp_ne (tgt := 70) hx hb dX0_monitorUseAllows_63 (by decide) (fun c_17 => ?_) (fun c_17 => ?_)
            · refine lv_iconst (v := 0) hx hb dX0_monitorUseAllows_70 (by decide) ?_
              exact jb c_17
            · refine lv_iconst (v := 1) hx hb dX0_monitorUseAllows_66 (by decide) ?_
              refine lv_goto (tgt := 71) hx hb dX0_monitorUseAllows_67 (by decide) ?_
              exact ja c_17
          exact kr_zret hx hb hr hlocks hK hP hD hS (nb_ite (by decide) (by decide)) (by unfold r_aMonMay; rw [if_pos c_2, if_neg c_7, if_neg c_12, if_neg c_16]) rfl dX0_monitorUseAllows_71
