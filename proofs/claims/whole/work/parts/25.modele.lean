def n_oDo (iv : Nat → Nat → Int32) (lv : Nat → Nat → Int64) (t mm u : Nat) (way : Int32) (p sz v1 v2 : Nat) : Nat → Nat → Int64 := if 6 ≤ (r_oAction iv t p) then if (m_oOther (up2 iv 4 t (nI (p + 1))) t u (r_oAction iv t p) (r_oOperand iv t p)) 5 t = 0 then (n_oOther (up2 iv 4 t (nI (p + 1))) lv t u (r_oAction iv t p) (r_oOperand iv t p)) else (n_oOther (up2 iv 4 t (nI (p + 1))) lv t u (r_oAction iv t p) (r_oOperand iv t p)) else if (m_oMon (up2 iv 4 t (nI (p + 1))) t mm (r_oAction iv t p) way sz v1 v2) 5 t = 0 then (n_oMon (up2 iv 4 t (nI (p + 1))) lv t mm (r_oAction iv t p) way sz v1 v2) else (n_oMon (up2 iv 4 t (nI (p + 1))) lv t mm (r_oAction iv t p) way sz v1 v2)
def m_oDo (iv : Nat → Nat → Int32) (t mm u : Nat) (way : Int32) (p sz v1 v2 : Nat) : Nat → Nat → Int32 := if 6 ≤ (r_oAction iv t p) then if (m_oOther (up2 iv 4 t (nI (p + 1))) t u (r_oAction iv t p) (r_oOperand iv t p)) 5 t = 0 then (m_oRun (m_oOther (up2 iv 4 t (nI (p + 1))) t u (r_oAction iv t p) (r_oOperand iv t p)) t) else (m_oOther (up2 iv 4 t (nI (p + 1))) t u (r_oAction iv t p) (r_oOperand iv t p)) else if (m_oMon (up2 iv 4 t (nI (p + 1))) t mm (r_oAction iv t p) way sz v1 v2) 5 t = 0 then (m_oRun (m_oMon (up2 iv 4 t (nI (p + 1))) t mm (r_oAction iv t p) way sz v1 v2) t) else (m_oMon (up2 iv 4 t (nI (p + 1))) t mm (r_oAction iv t p) way sz v1 v2)
set_option maxHeartbeats 4000000 in
set_option maxRecDepth 100000 in
theorem c_oDo (l : Launch) (D : va_G) (gc : Nat → ClassId) (ad ln : Nat → Nat) (iv : Nat → Nat → Int32) (lv : Nat → Nat → Int64) (t mm u : Nat) (ht : t < 4) (hmm : mm < 2) (hu : u < 4) (way : Int32) (p : Nat) (hp : iv 4 t = nI p) (hp6 : p < 6) (sz v1 v2 : Nat) (hom : r_oAction iv t p < 6 → r_oOperand iv t p = nI mm) (hou : r_oAction iv t p = 6 ∨ r_oAction iv t p = 8 → r_oOperand iv t p = nI u) (hM : r_oAction iv t p < 6 → okMon (up2 iv 4 t (nI (p + 1))) t mm (r_oAction iv t p) way sz v1 v2) : kMv l yX7_doAction wX7_doAction ({ frames := 4, cells := 0, slots := 0, locals := 90 }) D vwCl (kT gc) 20 (rE gc) [.ref (ad 0), .int (nI t), .int way] (ad, ln, iv, lv) (ad, ln, m_oDo iv t mm u way p sz v1 v2, n_oDo iv lv t mm u way p sz v1 v2) := by
  refine kv_start (cc := cX7_doAction) (maxL := 5) (by decide) rfl (Nat.le_of_ble_eq_true rfl) ?_
  intro p9 e9 s m9 below meth c9 A ls hx hb hr hts hown hlocks hml hA hK hP hD hS hl
  have hl : lv_has ls 5 [(0, .ref (ad 0)), (1, .int (nI t)), (2, .int way)] := hl
  have hown : s.vm.findClass "MonitorWaysModel" = some m9.cls := hown
  have hin_X7 : ∀ w ∈ u_ws "MonitorWaysModel" TX7 27, w ∈ wX7_doAction := fun w h => tcons (inX7 w h)
  have lk_f19 := hts _ (tcons tw_578)
  have lk_f22 := hts _ (tcons tw_579)
  refine lv_aload_n hx hb dX7_doAction_0 rfl (lv_at hl 0 rfl) ?_
  refine lv_iload_n hx hb dX7_doAction_1 rfl (lv_at hl 1 rfl) ?_
  refine kr_callVi (As := [.int (nI t)]) (rest := []) ⟨hx, hb, hml, hown, hts⟩ (c_oAction l D gc ad ln iv lv t (by omega) p hp hp6) (cwV 1 hts (goodV (fun _ h => tcons h) tw_687 tw_689 ts_32 tw_8 tw_690) rfl rfl rfl (by decide +kernel) ⟨Nat.le_of_ble_eq_true rfl, Nat.le_of_ble_eq_true rfl⟩) (kr_recv hK hP 0 (by decide) (R_0 _ _ _ _) rfl) hK hP hD hS hA rfl hl.1 rfl (Nat.le_of_ble_eq_true rfl) dX7_doAction_2 ⟨Nat.le_of_ble_eq_true rfl, Nat.le_of_ble_eq_true rfl⟩ (fun H locs hP hD hS => ?_)
  refine lv_istore_n (lv' := [(3, .int (r_oAction iv t p)), (0, .ref (ad 0)), (1, .int (nI t)), (2, .int way)]) hx hb dX7_doAction_5 rfl hl (by decide) rfl (fun ls hl => ?_)
  refine lv_aload_n hx hb dX7_doAction_6 rfl (lv_at hl 1 rfl) ?_
  refine lv_iload_n hx hb dX7_doAction_7 rfl (lv_at hl 2 rfl) ?_
  refine kr_callVi (As := [.int (nI t)]) (rest := []) ⟨hx, hb, hml, hown, hts⟩ (c_oOperand l D gc ad ln iv lv t (by omega) p hp hp6) (cwV 1 hts (goodV (fun _ h => tcons h) tw_691 tw_693 ts_33 tw_8 tw_694) rfl rfl rfl (by decide +kernel) ⟨Nat.le_of_ble_eq_true rfl, Nat.le_of_ble_eq_true rfl⟩) (kr_recv hK hP 0 (by decide) (R_0 _ _ _ _) rfl) hK hP hD hS hA rfl hl.1 rfl (Nat.le_of_ble_eq_true rfl) dX7_doAction_8 ⟨Nat.le_of_ble_eq_true rfl, Nat.le_of_ble_eq_true rfl⟩ (fun H locs hP hD hS => ?_)
  refine lv_istore (lv' := [(4, .int (r_oOperand iv t p)), (3, .int (r_oAction iv t p)), (0, .ref (ad 0)), (1, .int (nI t)), (2, .int way)]) hx hb dX7_doAction_11 hl (by decide) rfl (fun ls hl => ?_)
  refine lv_aload_n hx hb dX7_doAction_13 rfl (lv_at hl 2 rfl) ?_
  refine kr_get (C := "MonitorWaysModel") (T := TX7) (N := 27) hx hb hts hin_X7 hown hK hP 0 (by decide) (R_0 _ _ _ _) rfl 4 (by decide) lk_f19 (fun _ h9 => h9) rfl dX7_doAction_14 ?_
  refine lv_iload_n hx hb dX7_doAction_17 rfl (lv_at hl 3 rfl) ?_
  refine lv_dup2_11 hx hb dX7_doAction_18 rfl rfl ?_
  refine kr_ialdN hx hb hK hP 4 0 (by decide) (R_4 _ _ _ _) rfl (j := t) (by omega) (by decide) dX7_doAction_19 ?_
  refine kr_topi (y := nI p) hp ?_
  refine lv_iconst (v := 1) hx hb dX7_doAction_20 (by decide) ?_
  refine lv_iadd hx hb dX7_doAction_21 ?_
  refine kr_topi (y := nI (p + 1)) (nI_add p 1) ?_
  refine kr_iastN hx hb hK hP hD hS 4 0 (by decide) (fun _ => R_4 _ _ _ _) rfl (j := t) (by omega) (by decide) dX7_doAction_22 (fun H locs hP hD hS => ?_)
  refine lv_iload_n hx hb dX7_doAction_23 rfl (lv_at hl 1 rfl) ?_
  refine lv_bipush (v := 6) hx hb dX7_doAction_24 (by decide) ?_
  refine lv_icmp_ge (tgt := 41) hx hb dX7_doAction_26 (by decide) (fun c_1 => ?_) (fun c_1 => ?_)
  · refine lv_aload_n hx hb dX7_doAction_41 rfl (lv_at hl 2 rfl) ?_
    refine lv_iload_n hx hb dX7_doAction_42 rfl (lv_at hl 3 rfl) ?_
    refine lv_iload_n hx hb dX7_doAction_43 rfl (lv_at hl 1 rfl) ?_
    refine lv_iload hx hb dX7_doAction_44 (lv_at hl 0 rfl) ?_
    refine kr_callVv (As := [.int (nI t), .int (r_oAction iv t p), .int (r_oOperand iv t p)]) (rest := []) ⟨hx, hb, hml, hown, hts⟩ (c_oOther l D gc ad ln (up2 iv 4 t (nI (p + 1))) lv t u (by omega) hu (r_oAction iv t p) (r_oOperand iv t p) hou) (cwV 3 hts (goodV (fun _ h => tcons h) tw_732 tw_734 ts_43 tw_8 tw_735) rfl rfl rfl (by decide +kernel) ⟨Nat.le_of_ble_eq_true rfl, Nat.le_of_ble_eq_true rfl⟩) (kr_recv hK hP 0 (by decide) (R_0 _ _ _ _) rfl) hK hP hD hS hA rfl hl.1 rfl (Nat.le_of_ble_eq_true rfl) dX7_doAction_46 ⟨Nat.le_of_ble_eq_true rfl, Nat.le_of_ble_eq_true rfl⟩ (fun H locs hP hD hS => ?_)
    refine lv_aload_n hx hb dX7_doAction_49 rfl (lv_at hl 2 rfl) ?_
    refine kr_get (C := "MonitorWaysModel") (T := TX7) (N := 27) hx hb hts hin_X7 hown hK hP 0 (by decide) (R_0 _ _ _ _) rfl 5 (by decide) lk_f22 (fun _ h9 => h9) rfl dX7_doAction_50 ?_
    refine lv_iload_n hx hb dX7_doAction_53 rfl (lv_at hl 3 rfl) ?_
    refine kr_ialdN hx hb hK hP 5 0 (by decide) (R_5 _ _ _ _) rfl (j := t) (by omega) (by decide) dX7_doAction_54 ?_
    refine lv_if_ne (tgt := 63) hx hb dX7_doAction_55 (by decide) (fun c_2 => ?_) (fun c_2 => ?_)
    · exact kr_vret hx hb hr hlocks hK hP hD hS (mem4 (by unfold m_oDo; first | (rw [if_pos c_1, if_neg c_2]; done) | simp only [if_pos c_1, if_neg c_2]) (by unfold n_oDo; first | (rw [if_pos c_1, if_neg c_2]; done) | simp only [if_pos c_1, if_neg c_2])) dX7_doAction_63
    · refine lv_aload_n hx hb dX7_doAction_58 rfl (lv_at hl 2 rfl) ?_
      refine lv_iload_n hx hb dX7_doAction_59 rfl (lv_at hl 3 rfl) ?_
      refine kr_callVv (As := [.int (nI t)]) (rest := []) ⟨hx, hb, hml, hown, hts⟩ (c_oRun l D gc ad ln (m_oOther (up2 iv 4 t (nI (p + 1))) t u (r_oAction iv t p) (r_oOperand iv t p)) (n_oOther (up2 iv 4 t (nI (p + 1))) lv t u (r_oAction iv t p) (r_oOperand iv t p)) t (by omega)) (cwV 1 hts (goodV (fun _ h => tcons h) tw_740 tw_742 ts_45 tw_8 tw_743) rfl rfl rfl (by decide +kernel) ⟨Nat.le_of_ble_eq_true rfl, Nat.le_of_ble_eq_true rfl⟩) (kr_recv hK hP 0 (by decide) (R_0 _ _ _ _) rfl) hK hP hD hS hA rfl hl.1 rfl (Nat.le_of_ble_eq_true rfl) dX7_doAction_60 ⟨Nat.le_of_ble_eq_true rfl, Nat.le_of_ble_eq_true rfl⟩ (fun H locs hP hD hS => ?_)
      exact kr_vret hx hb hr hlocks hK hP hD hS (mem4 (by unfold m_oDo; first | (rw [if_pos c_1, if_pos c_2]; done) | simp only [if_pos c_1, if_pos c_2]) (by unfold n_oDo; first | (rw [if_pos c_1, if_pos c_2]; done) | simp only [if_pos c_1, if_pos c_2])) dX7_doAction_63
  · refine lv_aload_n hx hb dX7_doAction_29 rfl (lv_at hl 2 rfl) ?_
    refine lv_iload_n hx hb dX7_doAction_30 rfl (lv_at hl 3 rfl) ?_
    refine lv_iload_n hx hb dX7_doAction_31 rfl (lv_at hl 1 rfl) ?_
    refine lv_iload hx hb dX7_doAction_32 (lv_at hl 0 rfl) ?_
    refine kr_topi (y := nI mm) (hom (Int32.not_le.mp c_1)) ?_
    refine lv_iload_n hx hb dX7_doAction_34 rfl (lv_at hl 4 rfl) ?_
    refine kr_callVv (As := [.int (nI t), .int (r_oAction iv t p), .int (nI mm), .int way]) (rest := []) ⟨hx, hb, hml, hown, hts⟩ (c_oMon l D gc ad ln (up2 iv 4 t (nI (p + 1))) lv t mm (by omega) (by omega) (r_oAction iv t p) way sz v1 v2 (hM (Int32.not_le.mp c_1))) (cwV 4 hts (goodV (fun _ h => tcons h) tw_711 tw_713 ts_38 tw_8 tw_714) rfl rfl rfl (by decide +kernel) ⟨Nat.le_of_ble_eq_true rfl, Nat.le_of_ble_eq_true rfl⟩) (kr_recv hK hP 0 (by decide) (R_0 _ _ _ _) rfl) hK hP hD hS hA rfl hl.1 rfl (Nat.le_of_ble_eq_true rfl) dX7_doAction_35 ⟨Nat.le_of_ble_eq_true rfl, Nat.le_of_ble_eq_true rfl⟩ (fun H locs hP hD hS => ?_)
    refine lv_goto (tgt := 49) hx hb dX7_doAction_38 (by decide) ?_
    refine lv_aload_n hx hb dX7_doAction_49 rfl (lv_at hl 2 rfl) ?_
    refine kr_get (C := "MonitorWaysModel") (T := TX7) (N := 27) hx hb hts hin_X7 hown hK hP 0 (by decide) (R_0 _ _ _ _) rfl 5 (by decide) lk_f22 (fun _ h9 => h9) rfl dX7_doAction_50 ?_
    refine lv_iload_n hx hb dX7_doAction_53 rfl (lv_at hl 3 rfl) ?_
    refine kr_ialdN hx hb hK hP 5 0 (by decide) (R_5 _ _ _ _) rfl (j := t) (by omega) (by decide) dX7_doAction_54 ?_
    refine lv_if_ne (tgt := 63) hx hb dX7_doAction_55 (by decide) (fun c_3 => ?_) (fun c_3 => ?_)
    · exact kr_vret hx hb hr hlocks hK hP hD hS (mem4 (by unfold m_oDo; first | (rw [if_neg c_1, if_neg c_3]; done) | simp only [if_neg c_1, if_neg c_3]) (by unfold n_oDo; first | (rw [if_neg c_1, if_neg c_3]; done) | simp only [if_neg c_1, if_neg c_3])) dX7_doAction_63
    · refine lv_aload_n hx hb dX7_doAction_58 rfl (lv_at hl 2 rfl) ?_
      refine lv_iload_n hx hb dX7_doAction_59 rfl (lv_at hl 3 rfl) ?_
      refine kr_callVv (As := [.int (nI t)]) (rest := []) ⟨hx, hb, hml, hown, hts⟩ (c_oRun l D gc ad ln (m_oMon (up2 iv 4 t (nI (p + 1))) t mm (r_oAction iv t p) way sz v1 v2) (n_oMon (up2 iv 4 t (nI (p + 1))) lv t mm (r_oAction iv t p) way sz v1 v2) t (by omega)) (cwV 1 hts (goodV (fun _ h => tcons h) tw_740 tw_742 ts_45 tw_8 tw_743) rfl rfl rfl (by decide +kernel) ⟨Nat.le_of_ble_eq_true rfl, Nat.le_of_ble_eq_true rfl⟩) (kr_recv hK hP 0 (by decide) (R_0 _ _ _ _) rfl) hK hP hD hS hA rfl hl.1 rfl (Nat.le_of_ble_eq_true rfl) dX7_doAction_60 ⟨Nat.le_of_ble_eq_true rfl, Nat.le_of_ble_eq_true rfl⟩ (fun H locs hP hD hS => ?_)
      exact kr_vret hx hb hr hlocks hK hP hD hS (mem4 (by unfold m_oDo; first | (rw [if_neg c_1, if_pos c_3]; done) | simp only [if_neg c_1, if_pos c_3]) (by unfold n_oDo; first | (rw [if_neg c_1, if_pos c_3]; done) | simp only [if_neg c_1, if_pos c_3])) dX7_doAction_63
/-- what leaving a set by itself rests on: thread t stands at place k0 of the set of mm, and nowhere before -/
def okLv (iv : Nat → Nat → Int32) (t p mm sz k0 : Nat) : Prop := 1 ≤ p ∧ iv 2 (6 * t + p - 1) = nI mm ∧ iv 14 mm = nI sz ∧ sz ≤ 4 ∧ k0 < sz ∧ iv 15 (4 * mm + k0) = nI t ∧ ∀ k, k < k0 → ¬ iv 15 (4 * mm + k) = nI t
def n_oPerf (iv : Nat → Nat → Int32) (lv : Nat → Nat → Int64) (t mm u p : Nat) (way : Int32) (sz v1 v2 k0 : Nat) : Nat → Nat → Int64 := if iv 5 t = 0 then (n_oDo iv lv t mm u way p sz v1 v2) else if iv 5 t = 2 then lv else if iv 5 t = 3 then if way = 3 then lv else lv else if way = 1 then if way = 2 then lv else (n_oPut (up2 (m_oLeave iv t mm sz k0) 9 t 0) lv t 1) else if way = 2 then lv else (n_oPut (m_oLeave iv t mm sz k0) lv t 3)
def m_oPerf (iv : Nat → Nat → Int32) (t mm u p : Nat) (way : Int32) (sz v1 v2 k0 : Nat) : Nat → Nat → Int32 := if iv 5 t = 0 then (m_oDo iv t mm u way p sz v1 v2) else if iv 5 t = 2 then (m_oRun (up2 (up2 (up2 iv 12 mm (nI t)) 13 mm ((up2 iv 12 mm (nI t)) 6 t)) 6 t 0) t) else if iv 5 t = 3 then if way = 3 then (m_oRun (up2 iv 11 t 1) t) else (m_oRun iv t) else if way = 1 then if way = 2 then (up2 (up2 (m_oLeave iv t mm sz k0) 9 t 0) 11 t 1) else (m_oPut (up2 (m_oLeave iv t mm sz k0) 9 t 0) t 1) else if way = 2 then (up2 (m_oLeave iv t mm sz k0) 11 t 1) else (m_oPut (m_oLeave iv t mm sz k0) t 3)
set_option maxHeartbeats 4000000 in
set_option maxRecDepth 100000 in
theorem c_oPerf (l : Launch) (D : va_G) (gc : Nat → ClassId) (ad ln : Nat → Nat) (iv : Nat → Nat → Int32) (lv : Nat → Nat → Int64) (t mm u p : Nat) (ht : t < 4) (hmm : mm < 2) (hu : u < 4) (way : Int32) (hR : okR iv t p mm u) (sz v1 v2 k0 : Nat) (hM : iv 5 t = 0 → r_oAction iv t p < 6 → okMon (up2 iv 4 t (nI (p + 1))) t mm (r_oAction iv t p) way sz v1 v2) (hL : ¬ iv 5 t = 0 → ¬ iv 5 t = 2 → ¬ iv 5 t = 3 → okLv iv t p mm sz k0) : kMv l yX7_perform wX7_perform ({ frames := 5, cells := 0, slots := 0, locals := 114 }) D vwCl (kT gc) 20 (rE gc) [.ref (ad 0), .int (nI t), .int way] (ad, ln, iv, lv) (ad, ln, m_oPerf iv t mm u p way sz v1 v2 k0, n_oPerf iv lv t mm u p way sz v1 v2 k0) := by
  refine kv_start (cc := cX7_perform) (maxL := 4) (by decide) rfl (Nat.le_of_ble_eq_true rfl) ?_
  intro p9 e9 s m9 below meth c9 A ls hx hb hr hts hown hlocks hml hA hK hP hD hS hl
  have hl : lv_has ls 4 [(0, .ref (ad 0)), (1, .int (nI t)), (2, .int way)] := hl
  have hown : s.vm.findClass "MonitorWaysModel" = some m9.cls := hown
  have hin_X7 : ∀ w ∈ u_ws "MonitorWaysModel" TX7 27, w ∈ wX7_perform := fun w h => tcons (inX7 w h)
  have lk_f22 := hts _ (tcons tw_579)
  have lk_f42 := hts _ (tcons tw_585)
  have lk_f35 := hts _ (tcons tw_583)
  have lk_f45 := hts _ (tcons tw_586)
  have lk_f48 := hts _ (tcons tw_587)
  have lk_f25 := hts _ (tcons tw_580)
  refine lv_aload_n hx hb dX7_perform_0 rfl (lv_at hl 0 rfl) ?_
  refine kr_get (C := "MonitorWaysModel") (T := TX7) (N := 27) hx hb hts hin_X7 hown hK hP 0 (by decide) (R_0 _ _ _ _) rfl 5 (by decide) lk_f22 (fun _ h9 => h9) rfl dX7_perform_1 ?_
  refine lv_iload_n hx hb dX7_perform_4 rfl (lv_at hl 1 rfl) ?_
  refine kr_ialdN hx hb hK hP 5 0 (by decide) (R_5 _ _ _ _) rfl (j := t) (by omega) (by decide) dX7_perform_5 ?_
  refine lv_if_ne (tgt := 18) hx hb dX7_perform_6 (by decide) (fun c_1 => ?_) (fun c_1 => ?_)
  · refine lv_aload_n hx hb dX7_perform_18 rfl (lv_at hl 0 rfl) ?_
    refine kr_get (C := "MonitorWaysModel") (T := TX7) (N := 27) hx hb hts hin_X7 hown hK hP 0 (by decide) (R_0 _ _ _ _) rfl 5 (by decide) lk_f22 (fun _ h9 => h9) rfl dX7_perform_19 ?_
    refine lv_iload_n hx hb dX7_perform_22 rfl (lv_at hl 1 rfl) ?_
    refine kr_ialdN hx hb hK hP 5 0 (by decide) (R_5 _ _ _ _) rfl (j := t) (by omega) (by decide) dX7_perform_23 ?_
    refine lv_iconst (v := 2) hx hb dX7_perform_24 (by decide) ?_
    refine lv_icmp_ne (tgt := 68) hx hb dX7_perform_25 (by decide) (fun c_2 => ?_) (fun c_2 => ?_)
    · refine lv_aload_n hx hb dX7_perform_68 rfl (lv_at hl 0 rfl) ?_
      refine kr_get (C := "MonitorWaysModel") (T := TX7) (N := 27) hx hb hts hin_X7 hown hK hP 0 (by decide) (R_0 _ _ _ _) rfl 5 (by decide) lk_f22 (fun _ h9 => h9) rfl dX7_perform_69 ?_
      refine lv_iload_n hx hb dX7_perform_72 rfl (lv_at hl 1 rfl) ?_
      refine kr_ialdN hx hb hK hP 5 0 (by decide) (R_5 _ _ _ _) rfl (j := t) (by omega) (by decide) dX7_perform_73 ?_
      refine lv_iconst (v := 3) hx hb dX7_perform_74 (by decide) ?_
      refine lv_icmp_ne (tgt := 98) hx hb dX7_perform_75 (by decide) (fun c_3 => ?_) (fun c_3 => ?_)
      · obtain ⟨hp1, hw, hsz, hs4, hk0, hfind, hbef⟩ := hL c_1 c_2 c_3
        refine lv_aload_n hx hb dX7_perform_98 rfl (lv_at hl 0 rfl) ?_
        refine lv_iload_n hx hb dX7_perform_99 rfl (lv_at hl 1 rfl) ?_
        refine kr_callVv (As := [.int (nI t)]) (rest := []) ⟨hx, hb, hml, hown, hts⟩ (c_oLeave l D gc ad ln iv lv t (by omega) p hR.1 hp1 hR.2.1 mm hmm hw sz hsz hs4 k0 hk0 hfind hbef) (cwV 1 hts (goodV (fun _ h => tcons h) tw_728 tw_730 ts_42 tw_8 tw_731) rfl rfl rfl (by decide +kernel) ⟨Nat.le_of_ble_eq_true rfl, Nat.le_of_ble_eq_true rfl⟩) (kr_recv hK hP 0 (by decide) (R_0 _ _ _ _) rfl) hK hP hD hS hA rfl hl.1 rfl (Nat.le_of_ble_eq_true rfl) dX7_perform_100 ⟨Nat.le_of_ble_eq_true rfl, Nat.le_of_ble_eq_true rfl⟩ (fun H locs hP hD hS => ?_)
        refine lv_iload_n hx hb dX7_perform_103 rfl (lv_at hl 2 rfl) ?_
        refine lv_iconst (v := 1) hx hb dX7_perform_104 (by decide) ?_
        refine lv_icmp_ne (tgt := 115) hx hb dX7_perform_105 (by decide) (fun c_4 => ?_) (fun c_4 => ?_)
        · refine lv_iload_n hx hb dX7_perform_115 rfl (lv_at hl 2 rfl) ?_
          refine lv_iconst (v := 2) hx hb dX7_perform_116 (by decide) ?_
          refine lv_icmp_ne (tgt := 127) hx hb dX7_perform_117 (by decide) (fun c_5 => ?_) (fun c_5 => ?_)
          · refine lv_iload_n hx hb dX7_perform_127 rfl (lv_at hl 2 rfl) ?_
            refine lv_iconst (v := 2) hx hb dX7_perform_128 (by decide) ?_
            refine lv_icmp_eq (tgt := 147) hx hb dX7_perform_129 (by decide) (fun c_6 => absurd c_6 c_5) (fun c_6 => ?_)
            refine lv_aload_n hx hb dX7_perform_132 rfl (lv_at hl 0 rfl) ?_
            refine lv_iload_n hx hb dX7_perform_133 rfl (lv_at hl 1 rfl) ?_
            refine lv_iload_n hx hb dX7_perform_134 rfl (lv_at hl 2 rfl) ?_
            refine lv_iconst (v := 1) hx hb dX7_perform_135 (by decide) ?_
            refine lv_icmp_ne (tgt := 143) hx hb dX7_perform_136 (by decide) (fun c_7 => ?_) (fun c_7 => absurd c_7 c_4)
            refine lv_iconst (v := 3) hx hb dX7_perform_143 (by decide) ?_
            refine kr_callVv (As := [.int (nI t), .int 3]) (rest := []) ⟨hx, hb, hml, hown, hts⟩ (c_oPut l D gc ad ln (m_oLeave iv t mm sz k0) lv t (by omega) 3) (cwV 2 hts (goodV (fun _ h => tcons h) tw_715 tw_717 ts_39 tw_8 tw_718) rfl rfl rfl (by decide +kernel) ⟨Nat.le_of_ble_eq_true rfl, Nat.le_of_ble_eq_true rfl⟩) (kr_recv hK hP 0 (by decide) (R_0 _ _ _ _) rfl) hK hP hD hS hA rfl hl.1 rfl (Nat.le_of_ble_eq_true rfl) dX7_perform_144 ⟨Nat.le_of_ble_eq_true rfl, Nat.le_of_ble_eq_true rfl⟩ (fun H locs hP hD hS => ?_)
            exact kr_vret hx hb hr hlocks hK hP hD hS (mem4 (by unfold m_oPerf; first | (rw [if_neg c_1, if_neg c_2, if_neg c_3, if_neg c_4, if_neg c_5]; done) | simp only [if_neg c_1, if_neg c_2, if_neg c_3, if_neg c_4, if_neg c_5]) (by unfold n_oPerf; first | (rw [if_neg c_1, if_neg c_2, if_neg c_3, if_neg c_4, if_neg c_5]; done) | simp only [if_neg c_1, if_neg c_2, if_neg c_3, if_neg c_4, if_neg c_5])) dX7_perform_147
          · refine lv_aload_n hx hb dX7_perform_120 rfl (lv_at hl 0 rfl) ?_
            refine kr_get (C := "MonitorWaysModel") (T := TX7) (N := 27) hx hb hts hin_X7 hown hK hP 0 (by decide) (R_0 _ _ _ _) rfl 11 (by decide) lk_f42 (fun _ h9 => h9) rfl dX7_perform_121 ?_
            refine lv_iload_n hx hb dX7_perform_124 rfl (lv_at hl 1 rfl) ?_
            refine lv_iconst (v := 1) hx hb dX7_perform_125 (by decide) ?_
            refine kr_zastN hx hb hK hP hD hS 11 1 (by decide) (fun _ => R_11 _ _ _ _) rfl (j := t) (by omega) (by decide) (by decide) dX7_perform_126 (fun H locs hP hD hS => ?_)
            refine lv_iload_n hx hb dX7_perform_127 rfl (lv_at hl 2 rfl) ?_
            refine lv_iconst (v := 2) hx hb dX7_perform_128 (by decide) ?_
            refine lv_icmp_eq (tgt := 147) hx hb dX7_perform_129 (by decide) (fun c_8 => ?_) (fun c_8 => absurd c_5 c_8)
            exact kr_vret hx hb hr hlocks hK hP hD hS (mem4 (by unfold m_oPerf; first | (rw [if_neg c_1, if_neg c_2, if_neg c_3, if_neg c_4, if_pos c_5]; done) | simp only [if_neg c_1, if_neg c_2, if_neg c_3, if_neg c_4, if_pos c_5]) (by unfold n_oPerf; first | (rw [if_neg c_1, if_neg c_2, if_neg c_3, if_neg c_4, if_pos c_5]; done) | simp only [if_neg c_1, if_neg c_2, if_neg c_3, if_neg c_4, if_pos c_5])) dX7_perform_147
        · refine lv_aload_n hx hb dX7_perform_108 rfl (lv_at hl 0 rfl) ?_
          refine kr_get (C := "MonitorWaysModel") (T := TX7) (N := 27) hx hb hts hin_X7 hown hK hP 0 (by decide) (R_0 _ _ _ _) rfl 9 (by decide) lk_f35 (fun _ h9 => h9) rfl dX7_perform_109 ?_
          refine lv_iload_n hx hb dX7_perform_112 rfl (lv_at hl 1 rfl) ?_
          refine lv_iconst (v := 0) hx hb dX7_perform_113 (by decide) ?_
          refine kr_zastN hx hb hK hP hD hS 9 1 (by decide) (fun _ => R_9 _ _ _ _) rfl (j := t) (by omega) (by decide) (by decide) dX7_perform_114 (fun H locs hP hD hS => ?_)
          refine lv_iload_n hx hb dX7_perform_115 rfl (lv_at hl 2 rfl) ?_
          refine lv_iconst (v := 2) hx hb dX7_perform_116 (by decide) ?_
          refine lv_icmp_ne (tgt := 127) hx hb dX7_perform_117 (by decide) (fun c_9 => ?_) (fun c_9 => ?_)
          · refine lv_iload_n hx hb dX7_perform_127 rfl (lv_at hl 2 rfl) ?_
            refine lv_iconst (v := 2) hx hb dX7_perform_128 (by decide) ?_
            refine lv_icmp_eq (tgt := 147) hx hb dX7_perform_129 (by decide) (fun c_10 => absurd c_10 c_9) (fun c_10 => ?_)
            refine lv_aload_n hx hb dX7_perform_132 rfl (lv_at hl 0 rfl) ?_
            refine lv_iload_n hx hb dX7_perform_133 rfl (lv_at hl 1 rfl) ?_
            refine lv_iload_n hx hb dX7_perform_134 rfl (lv_at hl 2 rfl) ?_
            refine lv_iconst (v := 1) hx hb dX7_perform_135 (by decide) ?_
            refine lv_icmp_ne (tgt := 143) hx hb dX7_perform_136 (by decide) (fun c_11 => absurd c_4 c_11) (fun c_11 => ?_)
            refine lv_iconst (v := 1) hx hb dX7_perform_139 (by decide) ?_
            refine lv_goto (tgt := 144) hx hb dX7_perform_140 (by decide) ?_
            refine kr_callVv (As := [.int (nI t), .int 1]) (rest := []) ⟨hx, hb, hml, hown, hts⟩ (c_oPut l D gc ad ln (up2 (m_oLeave iv t mm sz k0) 9 t 0) lv t (by omega) 1) (cwV 2 hts (goodV (fun _ h => tcons h) tw_715 tw_717 ts_39 tw_8 tw_718) rfl rfl rfl (by decide +kernel) ⟨Nat.le_of_ble_eq_true rfl, Nat.le_of_ble_eq_true rfl⟩) (kr_recv hK hP 0 (by decide) (R_0 _ _ _ _) rfl) hK hP hD hS hA rfl hl.1 rfl (Nat.le_of_ble_eq_true rfl) dX7_perform_144 ⟨Nat.le_of_ble_eq_true rfl, Nat.le_of_ble_eq_true rfl⟩ (fun H locs hP hD hS => ?_)
            exact kr_vret hx hb hr hlocks hK hP hD hS (mem4 (by unfold m_oPerf; first | (rw [if_neg c_1, if_neg c_2, if_neg c_3, if_pos c_4, if_neg c_9]; done) | simp only [if_neg c_1, if_neg c_2, if_neg c_3, if_pos c_4, if_neg c_9]) (by unfold n_oPerf; first | (rw [if_neg c_1, if_neg c_2, if_neg c_3, if_pos c_4, if_neg c_9]; done) | simp only [if_neg c_1, if_neg c_2, if_neg c_3, if_pos c_4, if_neg c_9])) dX7_perform_147
          · refine lv_aload_n hx hb dX7_perform_120 rfl (lv_at hl 0 rfl) ?_
            refine kr_get (C := "MonitorWaysModel") (T := TX7) (N := 27) hx hb hts hin_X7 hown hK hP 0 (by decide) (R_0 _ _ _ _) rfl 11 (by decide) lk_f42 (fun _ h9 => h9) rfl dX7_perform_121 ?_
            refine lv_iload_n hx hb dX7_perform_124 rfl (lv_at hl 1 rfl) ?_
            refine lv_iconst (v := 1) hx hb dX7_perform_125 (by decide) ?_
            refine kr_zastN hx hb hK hP hD hS 11 1 (by decide) (fun _ => R_11 _ _ _ _) rfl (j := t) (by omega) (by decide) (by decide) dX7_perform_126 (fun H locs hP hD hS => ?_)
            refine lv_iload_n hx hb dX7_perform_127 rfl (lv_at hl 2 rfl) ?_
            refine lv_iconst (v := 2) hx hb dX7_perform_128 (by decide) ?_
            refine lv_icmp_eq (tgt := 147) hx hb dX7_perform_129 (by decide) (fun c_12 => ?_) (fun c_12 => absurd c_9 c_12)
            exact kr_vret hx hb hr hlocks hK hP hD hS (mem4 (by unfold m_oPerf; first | (rw [if_neg c_1, if_neg c_2, if_neg c_3, if_pos c_4, if_pos c_9]; done) | simp only [if_neg c_1, if_neg c_2, if_neg c_3, if_pos c_4, if_pos c_9]) (by unfold n_oPerf; first | (rw [if_neg c_1, if_neg c_2, if_neg c_3, if_pos c_4, if_pos c_9]; done) | simp only [if_neg c_1, if_neg c_2, if_neg c_3, if_pos c_4, if_pos c_9])) dX7_perform_147
      · refine lv_iload_n hx hb dX7_perform_78 rfl (lv_at hl 2 rfl) ?_
        refine lv_iconst (v := 3) hx hb dX7_perform_79 (by decide) ?_
        refine lv_icmp_ne (tgt := 90) hx hb dX7_perform_80 (by decide) (fun c_13 => ?_) (fun c_13 => ?_)
        · refine lv_aload_n hx hb dX7_perform_90 rfl (lv_at hl 0 rfl) ?_
          refine lv_iload_n hx hb dX7_perform_91 rfl (lv_at hl 1 rfl) ?_
          refine kr_callVv (As := [.int (nI t)]) (rest := []) ⟨hx, hb, hml, hown, hts⟩ (c_oRun l D gc ad ln iv lv t (by omega)) (cwV 1 hts (goodV (fun _ h => tcons h) tw_740 tw_742 ts_45 tw_8 tw_743) rfl rfl rfl (by decide +kernel) ⟨Nat.le_of_ble_eq_true rfl, Nat.le_of_ble_eq_true rfl⟩) (kr_recv hK hP 0 (by decide) (R_0 _ _ _ _) rfl) hK hP hD hS hA rfl hl.1 rfl (Nat.le_of_ble_eq_true rfl) dX7_perform_92 ⟨Nat.le_of_ble_eq_true rfl, Nat.le_of_ble_eq_true rfl⟩ (fun H locs hP hD hS => ?_)
          refine lv_goto (tgt := 147) hx hb dX7_perform_95 (by decide) ?_
          exact kr_vret hx hb hr hlocks hK hP hD hS (mem4 (by unfold m_oPerf; first | (rw [if_neg c_1, if_neg c_2, if_pos c_3, if_neg c_13]; done) | simp only [if_neg c_1, if_neg c_2, if_pos c_3, if_neg c_13]) (by unfold n_oPerf; first | (rw [if_neg c_1, if_neg c_2, if_pos c_3, if_neg c_13]; done) | simp only [if_neg c_1, if_neg c_2, if_pos c_3, if_neg c_13])) dX7_perform_147
        · refine lv_aload_n hx hb dX7_perform_83 rfl (lv_at hl 0 rfl) ?_
          refine kr_get (C := "MonitorWaysModel") (T := TX7) (N := 27) hx hb hts hin_X7 hown hK hP 0 (by decide) (R_0 _ _ _ _) rfl 11 (by decide) lk_f42 (fun _ h9 => h9) rfl dX7_perform_84 ?_
          refine lv_iload_n hx hb dX7_perform_87 rfl (lv_at hl 1 rfl) ?_
          refine lv_iconst (v := 1) hx hb dX7_perform_88 (by decide) ?_
          refine kr_zastN hx hb hK hP hD hS 11 1 (by decide) (fun _ => R_11 _ _ _ _) rfl (j := t) (by omega) (by decide) (by decide) dX7_perform_89 (fun H locs hP hD hS => ?_)
          refine lv_aload_n hx hb dX7_perform_90 rfl (lv_at hl 0 rfl) ?_
          refine lv_iload_n hx hb dX7_perform_91 rfl (lv_at hl 1 rfl) ?_
          refine kr_callVv (As := [.int (nI t)]) (rest := []) ⟨hx, hb, hml, hown, hts⟩ (c_oRun l D gc ad ln (up2 iv 11 t 1) lv t (by omega)) (cwV 1 hts (goodV (fun _ h => tcons h) tw_740 tw_742 ts_45 tw_8 tw_743) rfl rfl rfl (by decide +kernel) ⟨Nat.le_of_ble_eq_true rfl, Nat.le_of_ble_eq_true rfl⟩) (kr_recv hK hP 0 (by decide) (R_0 _ _ _ _) rfl) hK hP hD hS hA rfl hl.1 rfl (Nat.le_of_ble_eq_true rfl) dX7_perform_92 ⟨Nat.le_of_ble_eq_true rfl, Nat.le_of_ble_eq_true rfl⟩ (fun H locs hP hD hS => ?_)
          refine lv_goto (tgt := 147) hx hb dX7_perform_95 (by decide) ?_
          exact kr_vret hx hb hr hlocks hK hP hD hS (mem4 (by unfold m_oPerf; first | (rw [if_neg c_1, if_neg c_2, if_pos c_3, if_pos c_13]; done) | simp only [if_neg c_1, if_neg c_2, if_pos c_3, if_pos c_13]) (by unfold n_oPerf; first | (rw [if_neg c_1, if_neg c_2, if_pos c_3, if_pos c_13]; done) | simp only [if_neg c_1, if_neg c_2, if_pos c_3, if_pos c_13])) dX7_perform_147
    · refine lv_aload_n hx hb dX7_perform_28 rfl (lv_at hl 0 rfl) ?_
      refine lv_iload_n hx hb dX7_perform_29 rfl (lv_at hl 1 rfl) ?_
      refine kr_callVi (As := [.int (nI t)]) (rest := []) ⟨hx, hb, hml, hown, hts⟩ (c_oWaited l D gc ad ln iv lv t (by omega) p hR.1 (hR.2.2.2.1 (Or.inr (Or.inl c_2))) hR.2.1) (cwV 1 hts (goodV (fun _ h => tcons h) tw_699 tw_701 ts_35 tw_8 tw_702) rfl rfl rfl (by decide +kernel) ⟨Nat.le_of_ble_eq_true rfl, Nat.le_of_ble_eq_true rfl⟩) (kr_recv hK hP 0 (by decide) (R_0 _ _ _ _) rfl) hK hP hD hS hA rfl hl.1 rfl (Nat.le_of_ble_eq_true rfl) dX7_perform_30 ⟨Nat.le_of_ble_eq_true rfl, Nat.le_of_ble_eq_true rfl⟩ (fun H locs hP hD hS => ?_)
      refine kr_topi (y := nI mm) (hR.2.2.2.2.2.2.1 (Or.inr c_2)) ?_
      refine lv_istore_n (lv' := [(3, .int (nI mm)), (0, .ref (ad 0)), (1, .int (nI t)), (2, .int way)]) hx hb dX7_perform_33 rfl hl (by decide) rfl (fun ls hl => ?_)
      refine lv_aload_n hx hb dX7_perform_34 rfl (lv_at hl 1 rfl) ?_
      refine kr_get (C := "MonitorWaysModel") (T := TX7) (N := 27) hx hb hts hin_X7 hown hK hP 0 (by decide) (R_0 _ _ _ _) rfl 12 (by decide) lk_f45 (fun _ h9 => h9) rfl dX7_perform_35 ?_
      refine lv_iload_n hx hb dX7_perform_38 rfl (lv_at hl 0 rfl) ?_
      refine lv_iload_n hx hb dX7_perform_39 rfl (lv_at hl 2 rfl) ?_
      refine kr_iastN hx hb hK hP hD hS 12 0 (by decide) (fun _ => R_12 _ _ _ _) rfl (j := mm) (by omega) (by decide) dX7_perform_40 (fun H locs hP hD hS => ?_)
      refine lv_aload_n hx hb dX7_perform_41 rfl (lv_at hl 1 rfl) ?_
      refine kr_get (C := "MonitorWaysModel") (T := TX7) (N := 27) hx hb hts hin_X7 hown hK hP 0 (by decide) (R_0 _ _ _ _) rfl 13 (by decide) lk_f48 (fun _ h9 => h9) rfl dX7_perform_42 ?_
      refine lv_iload_n hx hb dX7_perform_45 rfl (lv_at hl 0 rfl) ?_
      refine lv_aload_n hx hb dX7_perform_46 rfl (lv_at hl 1 rfl) ?_
      refine kr_get (C := "MonitorWaysModel") (T := TX7) (N := 27) hx hb hts hin_X7 hown hK hP 0 (by decide) (R_0 _ _ _ _) rfl 6 (by decide) lk_f25 (fun _ h9 => h9) rfl dX7_perform_47 ?_
      refine lv_iload_n hx hb dX7_perform_50 rfl (lv_at hl 2 rfl) ?_
      refine kr_ialdN hx hb hK hP 6 0 (by decide) (R_6 _ _ _ _) rfl (j := t) (by omega) (by decide) dX7_perform_51 ?_
      refine kr_iastN hx hb hK hP hD hS 13 0 (by decide) (fun _ => R_13 _ _ _ _) rfl (j := mm) (by omega) (by decide) dX7_perform_52 (fun H locs hP hD hS => ?_)
      refine lv_aload_n hx hb dX7_perform_53 rfl (lv_at hl 1 rfl) ?_
      refine kr_get (C := "MonitorWaysModel") (T := TX7) (N := 27) hx hb hts hin_X7 hown hK hP 0 (by decide) (R_0 _ _ _ _) rfl 6 (by decide) lk_f25 (fun _ h9 => h9) rfl dX7_perform_54 ?_
      refine lv_iload_n hx hb dX7_perform_57 rfl (lv_at hl 2 rfl) ?_
      refine lv_iconst (v := 0) hx hb dX7_perform_58 (by decide) ?_
      refine kr_iastN hx hb hK hP hD hS 6 0 (by decide) (fun _ => R_6 _ _ _ _) rfl (j := t) (by omega) (by decide) dX7_perform_59 (fun H locs hP hD hS => ?_)
      refine lv_aload_n hx hb dX7_perform_60 rfl (lv_at hl 1 rfl) ?_
      refine lv_iload_n hx hb dX7_perform_61 rfl (lv_at hl 2 rfl) ?_
      refine kr_callVv (As := [.int (nI t)]) (rest := []) ⟨hx, hb, hml, hown, hts⟩ (c_oRun l D gc ad ln (up2 (up2 (up2 iv 12 mm (nI t)) 13 mm ((up2 iv 12 mm (nI t)) 6 t)) 6 t 0) lv t (by omega)) (cwV 1 hts (goodV (fun _ h => tcons h) tw_740 tw_742 ts_45 tw_8 tw_743) rfl rfl rfl (by decide +kernel) ⟨Nat.le_of_ble_eq_true rfl, Nat.le_of_ble_eq_true rfl⟩) (kr_recv hK hP 0 (by decide) (R_0 _ _ _ _) rfl) hK hP hD hS hA rfl hl.1 rfl (Nat.le_of_ble_eq_true rfl) dX7_perform_62 ⟨Nat.le_of_ble_eq_true rfl, Nat.le_of_ble_eq_true rfl⟩ (fun H locs hP hD hS => ?_)
      refine lv_goto (tgt := 147) hx hb dX7_perform_65 (by decide) ?_
      exact kr_vret hx hb hr hlocks hK hP hD hS (mem4 (by unfold m_oPerf; first | (rw [if_neg c_1, if_pos c_2]; done) | simp only [if_neg c_1, if_pos c_2]) (by unfold n_oPerf; first | (rw [if_neg c_1, if_pos c_2]; done) | simp only [if_neg c_1, if_pos c_2])) dX7_perform_147
  · refine lv_aload_n hx hb dX7_perform_9 rfl (lv_at hl 0 rfl) ?_
    refine lv_iload_n hx hb dX7_perform_10 rfl (lv_at hl 1 rfl) ?_
    refine lv_iload_n hx hb dX7_perform_11 rfl (lv_at hl 2 rfl) ?_
    refine kr_callVv (As := [.int (nI t), .int way]) (rest := []) ⟨hx, hb, hml, hown, hts⟩ (c_oDo l D gc ad ln iv lv t mm u (by omega) hmm hu way p hR.1 (hR.2.2.1 c_1) sz v1 v2 (hR.2.2.2.2.1 c_1) (fun h => hR.2.2.2.2.2.1 c_1 (h.elim Or.inl (fun h => Or.inr (Or.inl h)))) (hM c_1)) (cwV 2 hts (goodV (fun _ h => tcons h) tw_707 tw_709 ts_37 tw_8 tw_710) rfl rfl rfl (by decide +kernel) ⟨Nat.le_of_ble_eq_true rfl, Nat.le_of_ble_eq_true rfl⟩) (kr_recv hK hP 0 (by decide) (R_0 _ _ _ _) rfl) hK hP hD hS hA rfl hl.1 rfl (Nat.le_of_ble_eq_true rfl) dX7_perform_12 ⟨Nat.le_of_ble_eq_true rfl, Nat.le_of_ble_eq_true rfl⟩ (fun H locs hP hD hS => ?_)
    refine lv_goto (tgt := 147) hx hb dX7_perform_15 (by decide) ?_
    exact kr_vret hx hb hr hlocks hK hP hD hS (mem4 (by unfold m_oPerf; first | (rw [if_pos c_1]; done) | simp only [if_pos c_1]) (by unfold n_oPerf; first | (rw [if_pos c_1]; done) | simp only [if_pos c_1])) dX7_perform_147
