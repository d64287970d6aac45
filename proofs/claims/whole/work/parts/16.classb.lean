def r_xOutcome (iv : Nat → Nat → Int32) (lv : Nat → Nat → Int64) (k : Int32) (kx : Nat) : Int64 := (r_hOutAt iv lv k kx)
set_option maxHeartbeats 4000000 in
set_option maxRecDepth 100000 in
theorem c_xOutcome (l : Launch) (D : va_G) (gc : Nat → ClassId) (ad ln : Nat → Nat) (iv : Nat → Nat → Int32) (lv : Nat → Nat → Int64) (k : Int32) (kx : Nat) (hno : ln 41 < 2 ^ 31) (hkx : ¬ k < 0 → ¬ iv 36 10 ≤ k → kx < ln 41 ∧ k = nI kx) : kMl l yX6_outcome wX6_outcome ({ frames := 1, cells := 0, slots := 0, locals := 21 }) D vwCl (kT gc) 42 (kE gc) [.ref (ad 0), .int k] (ad, ln, iv, lv) (ad, ln, iv, lv) (r_xOutcome iv lv k kx) := by
  refine kl_start (cc := cX6_outcome) (maxL := 2) (ret := (some .long)) (by decide) rfl (Nat.le_of_ble_eq_true rfl) ?_
  intro p9 e9 s m9 below meth c9 A ls hx hb hr hts hown hlocks hml hA hK hP hD hS hl
  have hl : lv_has ls 2 [(0, .ref (ad 0)), (1, .int k)] := hl
  have hown : s.vm.findClass "MonitorWays" = some m9.cls := hown
  have hin_X6 : ∀ w ∈ u_ws "MonitorWays" TX6 4, w ∈ wX6_outcome := fun w h => tcons (inX6 w h)
  have lk_f30 := hts _ (tcons tw_208)
  refine lv_aload_n hx hb dX6_outcome_0 rfl (lv_at hl 0 rfl) ?_
  refine kr_get (C := "MonitorWays") (T := TX6) (N := 4) hx hb hts hin_X6 hown hK hP 0 (by decide) (E_main _ _ _ _) rfl 2 (by decide) lk_f30 (fun _ h9 => h9) rfl dX6_outcome_1 ?_
  refine lv_iload_n hx hb dX6_outcome_4 rfl (lv_at hl 1 rfl) ?_
  refine kr_callVl (As := [.int k]) (rest := []) ⟨hx, hb, hml, hown, hts⟩ (c_hOutAt l D gc ad ln iv lv k kx hno hkx) (cwV 1 hts (goodV (fun _ h => tcons h) tw_534 tw_535 tw_536 tw_6 tw_537) rfl rfl rfl (by decide +kernel) ⟨Nat.le_of_ble_eq_true rfl, Nat.le_of_ble_eq_true rfl⟩) (kr_recv hK hP 36 (by decide) (E_srch _ _ _ _) rfl) hK hP hD hS hA rfl hl.1 rfl (Nat.le_of_ble_eq_true rfl) dX6_outcome_5 ⟨Nat.le_of_ble_eq_true rfl, Nat.le_of_ble_eq_true rfl⟩ (fun H locs hP hD hS => ?_)
  exact kr_lret hx hb hr hlocks hK hP hD hS rfl rfl dX6_outcome_8
def r_xAct (iv : Nat → Nat → Int32) (tt : Int32) (t : Nat) (x a : Int32) (n : Nat) : Int32 := if (r_xIsT iv tt) = 0 then (-1) else if (r_xIsA iv x a) = 0 then (-1) else if nI n < 6 then (m_xAnew (m_hForget (m_pAdd iv t x a n))) (2 + t) 2 else (-2)
def m_xAct (iv : Nat → Nat → Int32) (tt : Int32) (t : Nat) (x a : Int32) (n : Nat) : Nat → Nat → Int32 := if (r_xIsT iv tt) = 0 then iv else if (r_xIsA iv x a) = 0 then iv else if nI n < 6 then (m_xAnew (m_hForget (m_pAdd iv t x a n))) else iv
set_option maxHeartbeats 4000000 in
set_option maxRecDepth 100000 in
theorem c_xAct (l : Launch) (D : va_G) (gc : Nat → ClassId) (ad ln : Nat → Nat) (iv : Nat → Nat → Int32) (lv : Nat → Nat → Int64) (tt : Int32) (t : Nat) (ht : ¬ r_xIsT iv tt = 0 → t < 4 ∧ tt = nI t) (x a : Int32) (n : Nat) (hn : t < 4 → iv (2 + t) 2 = nI n) (hn6 : n ≤ 6) : kMi l yX6_act wX6_act ({ frames := 4, cells := 0, slots := 0, locals := 81 }) D vwCl (kT gc) 42 (kE gc) [.ref (ad 0), .int tt, .int x, .int a] (ad, ln, iv, lv) (ad, ln, m_xAct iv tt t x a n, lv) (r_xAct iv tt t x a n) := by
  refine ki_start (cc := cX6_act) (maxL := 4) (ret := (some .int)) (by decide) rfl (Nat.le_of_ble_eq_true rfl) ?_
  intro p9 e9 s m9 below meth c9 A ls hx hb hr hts hown hlocks hml hA hK hP hD hS hl
  have hl : lv_has ls 4 [(0, .ref (ad 0)), (1, .int tt), (2, .int x), (3, .int a)] := hl
  have hown : s.vm.findClass "MonitorWays" = some m9.cls := hown
  have hin_X6 : ∀ w ∈ u_ws "MonitorWays" TX6 4, w ∈ wX6_act := fun w h => tcons (inX6 w h)
  have hin_X2 : ∀ w ∈ u_ws "MonitorWays$Program" TX2 3, w ∈ wX6_act := fun w h => tcons (inX2 w h)
  have lk_f12 := hts _ (tcons tw_206)
  have lk_f42 := hts _ (tcons tw_33)
  have lk_f30 := hts _ (tcons tw_208)
  refine lv_iload_n hx hb dX6_act_0 rfl (lv_at hl 1 rfl) ?_
  refine kr_callSi (As := [.int tt]) (rest := []) ⟨hx, hb, hml, hown, hts⟩ (c_xIsT l D gc ad ln iv lv tt) (cwS 1 hts (goodS (fun _ h => tcons h) tw_223 tw_224 tw_1 tw_225) rfl rfl rfl (by decide +kernel) ⟨Nat.le_of_ble_eq_true rfl, Nat.le_of_ble_eq_true rfl⟩) hK hP hD hS hA rfl hl.1 rfl (Nat.le_of_ble_eq_true rfl) dX6_act_1 ⟨Nat.le_of_ble_eq_true rfl, Nat.le_of_ble_eq_true rfl⟩ (fun H locs hP hD hS => ?_)
  refine lv_if_eq (tgt := 15) hx hb dX6_act_4 (by decide) (fun c_1 => ?_) (fun c_1 => ?_)
  · refine lv_iconst (v := (-1)) hx hb dX6_act_15 (by decide) ?_
    exact kr_iret hx hb hr hlocks hK hP hD hS (by unfold r_xAct; rw [if_pos c_1]) (by unfold m_xAct; rw [if_pos c_1]) dX6_act_16
  · refine lv_iload_n hx hb dX6_act_7 rfl (lv_at hl 2 rfl) ?_
    refine lv_iload_n hx hb dX6_act_8 rfl (lv_at hl 3 rfl) ?_
    refine kr_callSi (As := [.int x, .int a]) (rest := []) ⟨hx, hb, hml, hown, hts⟩ (c_xIsA l D gc ad ln iv lv x a) (cwS 2 hts (goodS (fun _ h => tcons h) tw_226 tw_227 tw_1 tw_228) rfl rfl rfl (by decide +kernel) ⟨Nat.le_of_ble_eq_true rfl, Nat.le_of_ble_eq_true rfl⟩) hK hP hD hS hA rfl hl.1 rfl (Nat.le_of_ble_eq_true rfl) dX6_act_9 ⟨Nat.le_of_ble_eq_true rfl, Nat.le_of_ble_eq_true rfl⟩ (fun H locs hP hD hS => ?_)
    refine lv_if_ne (tgt := 17) hx hb dX6_act_12 (by decide) (fun c_2 => ?_) (fun c_2 => ?_)
    · obtain ⟨ht4, htt⟩ := ht c_1
      refine lv_aload_n hx hb dX6_act_17 rfl (lv_at hl 0 rfl) ?_
      refine kr_get (C := "MonitorWays") (T := TX6) (N := 4) hx hb hts hin_X6 hown hK hP 0 (by decide) (E_main _ _ _ _) rfl 0 (by decide) lk_f12 (fun _ h9 => h9) rfl dX6_act_18 ?_
      refine lv_iload_n hx hb dX6_act_21 rfl (lv_at hl 1 rfl) ?_
      refine kr_topi (y := nI t) htt ?_
      refine kr_aald (a := ad (2 + t)) hx hb hK hP 1 3 (by decide) (E_pa _ _ _ _) rfl (vp_in_nI (n := t) (by omega) (by decide)) (by rw [nI_clamp (show t < 2 ^ 31 by omega)]) dX6_act_22 ?_
      refine kr_get (C := "MonitorWays$Program") (T := TX2) (N := 3) hx hb hts hin_X2 hown hK hP (2 + t) (by omega) (E_prog (by omega) _ _ _ _) rfl 2 (by decide) lk_f42 (fun _ h9 => h9) rfl dX6_act_23 ?_
      refine kr_topi (y := nI n) (hn ht4) ?_
      refine lv_bipush (v := 6) hx hb dX6_act_26 (by decide) ?_
      refine lv_icmp_lt (tgt := 34) hx hb dX6_act_28 (by decide) (fun c_3 => ?_) (fun c_3 => ?_)
      · refine lv_aload_n hx hb dX6_act_34 rfl (lv_at hl 0 rfl) ?_
        refine kr_get (C := "MonitorWays") (T := TX6) (N := 4) hx hb hts hin_X6 hown hK hP 0 (by decide) (E_main _ _ _ _) rfl 0 (by decide) lk_f12 (fun _ h9 => h9) rfl dX6_act_35 ?_
        refine lv_iload_n hx hb dX6_act_38 rfl (lv_at hl 1 rfl) ?_
        refine kr_topi (y := nI t) htt ?_
        refine kr_aald (a := ad (2 + t)) hx hb hK hP 1 3 (by decide) (E_pa _ _ _ _) rfl (vp_in_nI (n := t) (by omega) (by decide)) (by rw [nI_clamp (show t < 2 ^ 31 by omega)]) dX6_act_39 ?_
        refine lv_iload_n hx hb dX6_act_40 rfl (lv_at hl 2 rfl) ?_
        refine lv_iload_n hx hb dX6_act_41 rfl (lv_at hl 3 rfl) ?_
        refine kr_callVv (As := [.int x, .int a]) (rest := []) ⟨hx, hb, hml, hown, hts⟩ (c_pAdd l D gc ad ln iv lv t (by omega) x a n (hn ht4) hn6) (cwV 2 hts (goodV (fun _ h => tcons h) tw_232 tw_233 tw_234 tw_2 tw_235) rfl rfl rfl (by decide +kernel) ⟨Nat.le_of_ble_eq_true rfl, Nat.le_of_ble_eq_true rfl⟩) (kr_recv hK hP (2 + t) (by omega) (E_prog (by omega) _ _ _ _) rfl) hK hP hD hS hA rfl hl.1 rfl (Nat.le_of_ble_eq_true rfl) dX6_act_42 ⟨Nat.le_of_ble_eq_true rfl, Nat.le_of_ble_eq_true rfl⟩ (fun H locs hP hD hS => ?_)
        refine lv_aload_n hx hb dX6_act_45 rfl (lv_at hl 0 rfl) ?_
        refine kr_get (C := "MonitorWays") (T := TX6) (N := 4) hx hb hts hin_X6 hown hK hP 0 (by decide) (E_main _ _ _ _) rfl 2 (by decide) lk_f30 (fun _ h9 => h9) rfl dX6_act_46 ?_
        refine kr_callVv (As := []) (rest := []) ⟨hx, hb, hml, hown, hts⟩ (c_hForget l D gc ad ln (m_pAdd iv t x a n) lv) (cwV 0 hts (goodV (fun _ h => tcons h) tw_236 tw_237 tw_238 tw_6 tw_239) rfl rfl rfl (by decide +kernel) ⟨Nat.le_of_ble_eq_true rfl, Nat.le_of_ble_eq_true rfl⟩) (kr_recv hK hP 36 (by decide) (E_srch _ _ _ _) rfl) hK hP hD hS hA rfl hl.1 rfl (Nat.le_of_ble_eq_true rfl) dX6_act_49 ⟨Nat.le_of_ble_eq_true rfl, Nat.le_of_ble_eq_true rfl⟩ (fun H locs hP hD hS => ?_)
        refine lv_aload_n hx hb dX6_act_52 rfl (lv_at hl 0 rfl) ?_
        refine kr_callVv (As := []) (rest := []) ⟨hx, hb, hml, hown, hts⟩ (c_xAnew l D gc ad ln (m_hForget (m_pAdd iv t x a n)) lv) (cwV 0 hts (goodV (fun _ h => tcons h) tw_240 tw_242 ts_0 tw_1 tw_243) rfl rfl rfl (by decide +kernel) ⟨Nat.le_of_ble_eq_true rfl, Nat.le_of_ble_eq_true rfl⟩) (kr_recv hK hP 0 (by decide) (E_main _ _ _ _) rfl) hK hP hD hS hA rfl hl.1 rfl (Nat.le_of_ble_eq_true rfl) dX6_act_53 ⟨Nat.le_of_ble_eq_true rfl, Nat.le_of_ble_eq_true rfl⟩ (fun H locs hP hD hS => ?_)
        refine lv_aload_n hx hb dX6_act_56 rfl (lv_at hl 0 rfl) ?_
        refine kr_get (C := "MonitorWays") (T := TX6) (N := 4) hx hb hts hin_X6 hown hK hP 0 (by decide) (E_main _ _ _ _) rfl 0 (by decide) lk_f12 (fun _ h9 => h9) rfl dX6_act_57 ?_
        refine lv_iload_n hx hb dX6_act_60 rfl (lv_at hl 1 rfl) ?_
        refine kr_topi (y := nI t) htt ?_
        refine kr_aald (a := ad (2 + t)) hx hb hK hP 1 3 (by decide) (E_pa _ _ _ _) rfl (vp_in_nI (n := t) (by omega) (by decide)) (by rw [nI_clamp (show t < 2 ^ 31 by omega)]) dX6_act_61 ?_
        refine kr_get (C := "MonitorWays$Program") (T := TX2) (N := 3) hx hb hts hin_X2 hown hK hP (2 + t) (by omega) (E_prog (by omega) _ _ _ _) rfl 2 (by decide) lk_f42 (fun _ h9 => h9) rfl dX6_act_62 ?_
        exact kr_iret hx hb hr hlocks hK hP hD hS (by unfold r_xAct; rw [if_neg c_1, if_neg c_2, if_pos c_3]) (by unfold m_xAct; rw [if_neg c_1, if_neg c_2, if_pos c_3]) dX6_act_65
      · refine lv_bipush (v := (-2)) hx hb dX6_act_31 (by decide) ?_
        exact kr_iret hx hb hr hlocks hK hP hD hS (by unfold r_xAct; rw [if_neg c_1, if_neg c_2, if_neg c_3]) (by unfold m_xAct; rw [if_neg c_1, if_neg c_2, if_neg c_3]) dX6_act_33
    · refine lv_iconst (v := (-1)) hx hb dX6_act_15 (by decide) ?_
      exact kr_iret hx hb hr hlocks hK hP hD hS (by unfold r_xAct; rw [if_neg c_1, if_pos c_2]) (by unfold m_xAct; rw [if_neg c_1, if_pos c_2]) dX6_act_16
