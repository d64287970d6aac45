def n_oWait (iv : Nat → Nat → Int32) (lv : Nat → Nat → Int64) (t mm sz : Nat) : Nat → Nat → Int64 := if iv 9 t = 0 then lv else (n_oPut (up2 iv 9 t 0) lv t 1)
def m_oWait (iv : Nat → Nat → Int32) (t mm sz : Nat) : Nat → Nat → Int32 := if iv 9 t = 0 then (up2 (up2 (up2 (up2 (up2 (up2 iv 6 t (iv 13 mm)) 12 mm (-1)) 13 mm 0) 15 ((4 * mm) + sz) (nI t)) 14 mm (((up2 (up2 (up2 (up2 iv 6 t (iv 13 mm)) 12 mm (-1)) 13 mm 0) 15 ((4 * mm) + sz) (nI t)) 14 mm) + 1)) 5 t 1) else (m_oPut (up2 iv 9 t 0) t 1)
set_option maxHeartbeats 4000000 in
set_option maxRecDepth 100000 in
theorem c_oWait (l : Launch) (D : va_G) (gc : Nat → ClassId) (ad ln : Nat → Nat) (iv : Nat → Nat → Int32) (lv : Nat → Nat → Int64) (t mm : Nat) (ht : t < 4) (hmm : mm < 2) (sz : Nat) (hsz : iv 14 mm = nI sz) (hs3 : iv 9 t = 0 → sz < 4) : kMv l yX7_waitOn wX7_waitOn ({ frames := 1, cells := 0, slots := 0, locals := 22 }) D vwCl (kT gc) 20 (rE gc) [.ref (ad 0), .int (nI t), .int (nI mm)] (ad, ln, iv, lv) (ad, ln, m_oWait iv t mm sz, n_oWait iv lv t mm sz) := by
  refine kv_start (cc := cX7_waitOn) (maxL := 3) (by decide) rfl (Nat.le_of_ble_eq_true rfl) ?_
  intro p9 e9 s m9 below meth c9 A ls hx hb hr hts hown hlocks hml hA hK hP hD hS hl
  have hl : lv_has ls 3 [(0, .ref (ad 0)), (1, .int (nI t)), (2, .int (nI mm))] := hl
  have hown : s.vm.findClass "MonitorWaysModel" = some m9.cls := hown
  have hin_X7 : ∀ w ∈ u_ws "MonitorWaysModel" TX7 27, w ∈ wX7_waitOn := fun w h => tcons (inX7 w h)
  have lk_f35 := hts _ (tcons tw_583)
  have lk_f25 := hts _ (tcons tw_580)
  have lk_f48 := hts _ (tcons tw_587)
  have lk_f45 := hts _ (tcons tw_586)
  have lk_f54 := hts _ (tcons tw_589)
  have lk_f51 := hts _ (tcons tw_588)
  have lk_f22 := hts _ (tcons tw_579)
  refine lv_aload_n hx hb dX7_waitOn_0 rfl (lv_at hl 0 rfl) ?_
  refine kr_get (C := "MonitorWaysModel") (T := TX7) (N := 27) hx hb hts hin_X7 hown hK hP 0 (by decide) (R_0 _ _ _ _) rfl 9 (by decide) lk_f35 (fun _ h9 => h9) rfl dX7_waitOn_1 ?_
  refine lv_iload_n hx hb dX7_waitOn_4 rfl (lv_at hl 1 rfl) ?_
  refine kr_zaldN hx hb hK hP 9 1 (by decide) (R_9 _ _ _ _) rfl (j := t) (by omega) (by decide) dX7_waitOn_5 ?_
  refine lv_if_eq (tgt := 23) hx hb dX7_waitOn_6 (by decide) (fun c_1 => ?_) (fun c_1 => ?_)
  · have hs3 := hs3 c_1
    refine lv_aload_n hx hb dX7_waitOn_23 rfl (lv_at hl 0 rfl) ?_
    refine kr_get (C := "MonitorWaysModel") (T := TX7) (N := 27) hx hb hts hin_X7 hown hK hP 0 (by decide) (R_0 _ _ _ _) rfl 6 (by decide) lk_f25 (fun _ h9 => h9) rfl dX7_waitOn_24 ?_
    refine lv_iload_n hx hb dX7_waitOn_27 rfl (lv_at hl 1 rfl) ?_
    refine lv_aload_n hx hb dX7_waitOn_28 rfl (lv_at hl 0 rfl) ?_
    refine kr_get (C := "MonitorWaysModel") (T := TX7) (N := 27) hx hb hts hin_X7 hown hK hP 0 (by decide) (R_0 _ _ _ _) rfl 13 (by decide) lk_f48 (fun _ h9 => h9) rfl dX7_waitOn_29 ?_
    refine lv_iload_n hx hb dX7_waitOn_32 rfl (lv_at hl 2 rfl) ?_
    refine kr_ialdN hx hb hK hP 13 0 (by decide) (R_13 _ _ _ _) rfl (j := mm) (by omega) (by decide) dX7_waitOn_33 ?_
    refine kr_iastN hx hb hK hP hD hS 6 0 (by decide) (fun _ => R_6 _ _ _ _) rfl (j := t) (by omega) (by decide) dX7_waitOn_34 (fun H locs hP hD hS => ?_)
    refine lv_aload_n hx hb dX7_waitOn_35 rfl (lv_at hl 0 rfl) ?_
    refine kr_get (C := "MonitorWaysModel") (T := TX7) (N := 27) hx hb hts hin_X7 hown hK hP 0 (by decide) (R_0 _ _ _ _) rfl 12 (by decide) lk_f45 (fun _ h9 => h9) rfl dX7_waitOn_36 ?_
    refine lv_iload_n hx hb dX7_waitOn_39 rfl (lv_at hl 2 rfl) ?_
    refine lv_iconst (v := (-1)) hx hb dX7_waitOn_40 (by decide) ?_
    refine kr_iastN hx hb hK hP hD hS 12 0 (by decide) (fun _ => R_12 _ _ _ _) rfl (j := mm) (by omega) (by decide) dX7_waitOn_41 (fun H locs hP hD hS => ?_)
    refine lv_aload_n hx hb dX7_waitOn_42 rfl (lv_at hl 0 rfl) ?_
    refine kr_get (C := "MonitorWaysModel") (T := TX7) (N := 27) hx hb hts hin_X7 hown hK hP 0 (by decide) (R_0 _ _ _ _) rfl 13 (by decide) lk_f48 (fun _ h9 => h9) rfl dX7_waitOn_43 ?_
    refine lv_iload_n hx hb dX7_waitOn_46 rfl (lv_at hl 2 rfl) ?_
    refine lv_iconst (v := 0) hx hb dX7_waitOn_47 (by decide) ?_
    refine kr_iastN hx hb hK hP hD hS 13 0 (by decide) (fun _ => R_13 _ _ _ _) rfl (j := mm) (by omega) (by decide) dX7_waitOn_48 (fun H locs hP hD hS => ?_)
    refine lv_aload_n hx hb dX7_waitOn_49 rfl (lv_at hl 0 rfl) ?_
    refine kr_get (C := "MonitorWaysModel") (T := TX7) (N := 27) hx hb hts hin_X7 hown hK hP 0 (by decide) (R_0 _ _ _ _) rfl 15 (by decide) lk_f54 (fun _ h9 => h9) rfl dX7_waitOn_50 ?_
    refine lv_iconst (v := 4) hx hb dX7_waitOn_53 (by decide) ?_
    refine lv_iload_n hx hb dX7_waitOn_54 rfl (lv_at hl 2 rfl) ?_
    refine lv_imul hx hb dX7_waitOn_55 ?_
    refine kr_topi (y := nI (4 * mm)) (pk_mul 4 mm) ?_
    refine lv_aload_n hx hb dX7_waitOn_56 rfl (lv_at hl 0 rfl) ?_
    refine kr_get (C := "MonitorWaysModel") (T := TX7) (N := 27) hx hb hts hin_X7 hown hK hP 0 (by decide) (R_0 _ _ _ _) rfl 14 (by decide) lk_f51 (fun _ h9 => h9) rfl dX7_waitOn_57 ?_
    refine lv_iload_n hx hb dX7_waitOn_60 rfl (lv_at hl 2 rfl) ?_
    refine kr_ialdN hx hb hK hP 14 0 (by decide) (R_14 _ _ _ _) rfl (j := mm) (by omega) (by decide) dX7_waitOn_61 ?_
    refine kr_topi (y := nI sz) (by rw [up2_ne (by decide), up2_ne (by decide), up2_ne (by decide)]; exact hsz) ?_
    refine lv_iadd hx hb dX7_waitOn_62 ?_
    refine kr_topi (y := nI ((4 * mm) + sz)) (nI_add (4 * mm) sz) ?_
    refine lv_iload_n hx hb dX7_waitOn_63 rfl (lv_at hl 1 rfl) ?_
    refine kr_iastN hx hb hK hP hD hS 15 0 (by decide) (fun _ => R_15 _ _ _ _) rfl (j := ((4 * mm) + sz)) (by omega) (by decide) dX7_waitOn_64 (fun H locs hP hD hS => ?_)
    refine lv_aload_n hx hb dX7_waitOn_65 rfl (lv_at hl 0 rfl) ?_
    refine kr_get (C := "MonitorWaysModel") (T := TX7) (N := 27) hx hb hts hin_X7 hown hK hP 0 (by decide) (R_0 _ _ _ _) rfl 14 (by decide) lk_f51 (fun _ h9 => h9) rfl dX7_waitOn_66 ?_
    refine lv_iload_n hx hb dX7_waitOn_69 rfl (lv_at hl 2 rfl) ?_
    refine lv_dup2_11 hx hb dX7_waitOn_70 rfl rfl ?_
    refine kr_ialdN hx hb hK hP 14 0 (by decide) (R_14 _ _ _ _) rfl (j := mm) (by omega) (by decide) dX7_waitOn_71 ?_
    refine lv_iconst (v := 1) hx hb dX7_waitOn_72 (by decide) ?_
    refine lv_iadd hx hb dX7_waitOn_73 ?_
    refine kr_iastN hx hb hK hP hD hS 14 0 (by decide) (fun _ => R_14 _ _ _ _) rfl (j := mm) (by omega) (by decide) dX7_waitOn_74 (fun H locs hP hD hS => ?_)
    refine lv_aload_n hx hb dX7_waitOn_75 rfl (lv_at hl 0 rfl) ?_
    refine kr_get (C := "MonitorWaysModel") (T := TX7) (N := 27) hx hb hts hin_X7 hown hK hP 0 (by decide) (R_0 _ _ _ _) rfl 5 (by decide) lk_f22 (fun _ h9 => h9) rfl dX7_waitOn_76 ?_
    refine lv_iload_n hx hb dX7_waitOn_79 rfl (lv_at hl 1 rfl) ?_
    refine lv_iconst (v := 1) hx hb dX7_waitOn_80 (by decide) ?_
    refine kr_iastN hx hb hK hP hD hS 5 0 (by decide) (fun _ => R_5 _ _ _ _) rfl (j := t) (by omega) (by decide) dX7_waitOn_81 (fun H locs hP hD hS => ?_)
    exact kr_vret hx hb hr hlocks hK hP hD hS (mem4 (by unfold m_oWait; first | (rw [if_pos c_1]; done) | simp only [if_pos c_1]) (by unfold n_oWait; first | (rw [if_pos c_1]; done) | simp only [if_pos c_1])) dX7_waitOn_82
  · refine lv_aload_n hx hb dX7_waitOn_9 rfl (lv_at hl 0 rfl) ?_
    refine kr_get (C := "MonitorWaysModel") (T := TX7) (N := 27) hx hb hts hin_X7 hown hK hP 0 (by decide) (R_0 _ _ _ _) rfl 9 (by decide) lk_f35 (fun _ h9 => h9) rfl dX7_waitOn_10 ?_
    refine lv_iload_n hx hb dX7_waitOn_13 rfl (lv_at hl 1 rfl) ?_
    refine lv_iconst (v := 0) hx hb dX7_waitOn_14 (by decide) ?_
    refine kr_zastN hx hb hK hP hD hS 9 1 (by decide) (fun _ => R_9 _ _ _ _) rfl (j := t) (by omega) (by decide) (by decide) dX7_waitOn_15 (fun H locs hP hD hS => ?_)
    refine lv_aload_n hx hb dX7_waitOn_16 rfl (lv_at hl 0 rfl) ?_
    refine lv_iload_n hx hb dX7_waitOn_17 rfl (lv_at hl 1 rfl) ?_
    refine lv_iconst (v := 1) hx hb dX7_waitOn_18 (by decide) ?_
    refine kr_callVv (As := [.int (nI t), .int 1]) (rest := []) ⟨hx, hb, hml, hown, hts⟩ (c_oPut l D gc ad ln (up2 iv 9 t 0) lv t (by omega) 1) (cwV 2 hts (goodV (fun _ h => tcons h) tw_715 tw_717 ts_39 tw_8 tw_718) rfl rfl rfl (by decide +kernel) ⟨Nat.le_of_ble_eq_true rfl, Nat.le_of_ble_eq_true rfl⟩) (kr_recv hK hP 0 (by decide) (R_0 _ _ _ _) rfl) hK hP hD hS hA rfl hl.1 rfl (Nat.le_of_ble_eq_true rfl) dX7_waitOn_19 ⟨Nat.le_of_ble_eq_true rfl, Nat.le_of_ble_eq_true rfl⟩ (fun H locs hP hD hS => ?_)
    exact kr_vret hx hb hr hlocks hK hP hD hS (mem4 (by unfold m_oWait; first | (rw [if_neg c_1]; done) | simp only [if_neg c_1]) (by unfold n_oWait; first | (rw [if_neg c_1]; done) | simp only [if_neg c_1])) dX7_waitOn_22
def n_oOther (iv : Nat → Nat → Int32) (lv : Nat → Nat → Int64) (t u : Nat) (x a : Int32) : Nat → Nat → Int64 := if x = 6 then if iv 5 u = 4 then lv else lv else if x = 7 then if iv 10 t = 0 then if iv 9 t = 0 then lv else lv else lv else if x = 8 then lv else if x = 9 then (n_oBroken iv lv t 0) else if x = 10 then (n_oBroken iv lv t 0) else if x = 11 then (n_oPut iv lv t (8 + a)) else if x = 12 then (n_oBroken iv lv t 1) else (n_oBroken iv lv t 0)
def m_oOther (iv : Nat → Nat → Int32) (t u : Nat) (x a : Int32) : Nat → Nat → Int32 := if x = 6 then if iv 5 u = 4 then iv else (up2 iv 9 u 1) else if x = 7 then if iv 10 t = 0 then if iv 9 t = 0 then (up2 (up2 iv 5 t 3) 10 t 0) else (up2 iv 10 t 0) else (up2 iv 10 t 0) else if x = 8 then (m_oUnpark iv u) else if x = 9 then (m_oBroken iv t 0) else if x = 10 then (m_oBroken iv t 0) else if x = 11 then (m_oPut iv t (8 + a)) else if x = 12 then (m_oBroken iv t 1) else (m_oBroken iv t 0)
set_option maxHeartbeats 4000000 in
set_option maxRecDepth 100000 in
theorem c_oOther (l : Launch) (D : va_G) (gc : Nat → ClassId) (ad ln : Nat → Nat) (iv : Nat → Nat → Int32) (lv : Nat → Nat → Int64) (t u : Nat) (ht : t < 4) (hu : u < 4) (x a : Int32) (hou : x = 6 ∨ x = 8 → a = nI u) : kMv l yX7_otherAction wX7_otherAction ({ frames := 2, cells := 0, slots := 0, locals := 44 }) D vwCl (kT gc) 20 (rE gc) [.ref (ad 0), .int (nI t), .int x, .int a] (ad, ln, iv, lv) (ad, ln, m_oOther iv t u x a, n_oOther iv lv t u x a) := by
  refine kv_start (cc := cX7_otherAction) (maxL := 4) (by decide) rfl (Nat.le_of_ble_eq_true rfl) ?_
  intro p9 e9 s m9 below meth c9 A ls hx hb hr hts hown hlocks hml hA hK hP hD hS hl
  have hl : lv_has ls 4 [(0, .ref (ad 0)), (1, .int (nI t)), (2, .int x), (3, .int a)] := hl
  have hown : s.vm.findClass "MonitorWaysModel" = some m9.cls := hown
  have hin_X7 : ∀ w ∈ u_ws "MonitorWaysModel" TX7 27, w ∈ wX7_otherAction := fun w h => tcons (inX7 w h)
  have lk_f22 := hts _ (tcons tw_579)
  have lk_f35 := hts _ (tcons tw_583)
  have lk_f39 := hts _ (tcons tw_584)
  refine lv_iload_n hx hb dX7_otherAction_0 rfl (lv_at hl 2 rfl) ?_
  by_cases c_1 : x = 6
  · refine lv_tableIn (tgt := 44) (off := 43) hx hb dX7_otherAction_1 (by rw [c_1]; decide) (by rw [c_1]; decide) (by rw [c_1]; decide) (by decide) ?_
    refine lv_aload_n hx hb dX7_otherAction_44 rfl (lv_at hl 0 rfl) ?_
    refine kr_get (C := "MonitorWaysModel") (T := TX7) (N := 27) hx hb hts hin_X7 hown hK hP 0 (by decide) (R_0 _ _ _ _) rfl 5 (by decide) lk_f22 (fun _ h9 => h9) rfl dX7_otherAction_45 ?_
    refine lv_iload_n hx hb dX7_otherAction_48 rfl (lv_at hl 3 rfl) ?_
    refine kr_topi (y := nI u) (hou (Or.inl c_1)) ?_
    refine kr_ialdN hx hb hK hP 5 0 (by decide) (R_5 _ _ _ _) rfl (j := u) (by omega) (by decide) dX7_otherAction_49 ?_
    refine lv_iconst (v := 4) hx hb dX7_otherAction_50 (by decide) ?_
    refine lv_icmp_eq (tgt := 61) hx hb dX7_otherAction_51 (by decide) (fun c_2 => ?_) (fun c_2 => ?_)
    · exact kr_vret hx hb hr hlocks hK hP hD hS (mem4 (by unfold m_oOther; first | (rw [if_pos c_1, if_pos c_2]; done) | simp only [if_pos c_1, if_pos c_2]) (by unfold n_oOther; first | (rw [if_pos c_1, if_pos c_2]; done) | simp only [if_pos c_1, if_pos c_2])) dX7_otherAction_61
    · refine lv_aload_n hx hb dX7_otherAction_54 rfl (lv_at hl 0 rfl) ?_
      refine kr_get (C := "MonitorWaysModel") (T := TX7) (N := 27) hx hb hts hin_X7 hown hK hP 0 (by decide) (R_0 _ _ _ _) rfl 9 (by decide) lk_f35 (fun _ h9 => h9) rfl dX7_otherAction_55 ?_
      refine lv_iload_n hx hb dX7_otherAction_58 rfl (lv_at hl 3 rfl) ?_
      refine kr_topi (y := nI u) (hou (Or.inl c_1)) ?_
      refine lv_iconst (v := 1) hx hb dX7_otherAction_59 (by decide) ?_
      refine kr_zastN hx hb hK hP hD hS 9 1 (by decide) (fun _ => R_9 _ _ _ _) rfl (j := u) (by omega) (by decide) (by decide) dX7_otherAction_60 (fun H locs hP hD hS => ?_)
      exact kr_vret hx hb hr hlocks hK hP hD hS (mem4 (by unfold m_oOther; first | (rw [if_pos c_1, if_neg c_2]; done) | simp only [if_pos c_1, if_neg c_2]) (by unfold n_oOther; first | (rw [if_pos c_1, if_neg c_2]; done) | simp only [if_pos c_1, if_neg c_2])) dX7_otherAction_61
  by_cases c_3 : x = 7
  · refine lv_tableIn (tgt := 62) (off := 61) hx hb dX7_otherAction_1 (by rw [c_3]; decide) (by rw [c_3]; decide) (by rw [c_3]; decide) (by decide) ?_
    refine lv_aload_n hx hb dX7_otherAction_62 rfl (lv_at hl 0 rfl) ?_
    refine kr_get (C := "MonitorWaysModel") (T := TX7) (N := 27) hx hb hts hin_X7 hown hK hP 0 (by decide) (R_0 _ _ _ _) rfl 10 (by decide) lk_f39 (fun _ h9 => h9) rfl dX7_otherAction_63 ?_
    refine lv_iload_n hx hb dX7_otherAction_66 rfl (lv_at hl 1 rfl) ?_
    refine kr_zaldN hx hb hK hP 10 1 (by decide) (R_10 _ _ _ _) rfl (j := t) (by omega) (by decide) dX7_otherAction_67 ?_
    refine lv_if_ne (tgt := 87) hx hb dX7_otherAction_68 (by decide) (fun c_4 => ?_) (fun c_4 => ?_)
    · refine lv_aload_n hx hb dX7_otherAction_87 rfl (lv_at hl 0 rfl) ?_
      refine kr_get (C := "MonitorWaysModel") (T := TX7) (N := 27) hx hb hts hin_X7 hown hK hP 0 (by decide) (R_0 _ _ _ _) rfl 10 (by decide) lk_f39 (fun _ h9 => h9) rfl dX7_otherAction_88 ?_
      refine lv_iload_n hx hb dX7_otherAction_91 rfl (lv_at hl 1 rfl) ?_
      refine lv_iconst (v := 0) hx hb dX7_otherAction_92 (by decide) ?_
      refine kr_zastN hx hb hK hP hD hS 10 1 (by decide) (fun _ => R_10 _ _ _ _) rfl (j := t) (by omega) (by decide) (by decide) dX7_otherAction_93 (fun H locs hP hD hS => ?_)
      exact kr_vret hx hb hr hlocks hK hP hD hS (mem4 (by unfold m_oOther; first | (rw [if_neg c_1, if_pos c_3, if_neg c_4]; done) | simp only [if_neg c_1, if_pos c_3, if_neg c_4]) (by unfold n_oOther; first | (rw [if_neg c_1, if_pos c_3, if_neg c_4]; done) | simp only [if_neg c_1, if_pos c_3, if_neg c_4])) dX7_otherAction_94
    · refine lv_aload_n hx hb dX7_otherAction_71 rfl (lv_at hl 0 rfl) ?_
      refine kr_get (C := "MonitorWaysModel") (T := TX7) (N := 27) hx hb hts hin_X7 hown hK hP 0 (by decide) (R_0 _ _ _ _) rfl 9 (by decide) lk_f35 (fun _ h9 => h9) rfl dX7_otherAction_72 ?_
      refine lv_iload_n hx hb dX7_otherAction_75 rfl (lv_at hl 1 rfl) ?_
      refine kr_zaldN hx hb hK hP 9 1 (by decide) (R_9 _ _ _ _) rfl (j := t) (by omega) (by decide) dX7_otherAction_76 ?_
      refine lv_if_ne (tgt := 87) hx hb dX7_otherAction_77 (by decide) (fun c_5 => ?_) (fun c_5 => ?_)
      · refine lv_aload_n hx hb dX7_otherAction_87 rfl (lv_at hl 0 rfl) ?_
        refine kr_get (C := "MonitorWaysModel") (T := TX7) (N := 27) hx hb hts hin_X7 hown hK hP 0 (by decide) (R_0 _ _ _ _) rfl 10 (by decide) lk_f39 (fun _ h9 => h9) rfl dX7_otherAction_88 ?_
        refine lv_iload_n hx hb dX7_otherAction_91 rfl (lv_at hl 1 rfl) ?_
        refine lv_iconst (v := 0) hx hb dX7_otherAction_92 (by decide) ?_
        refine kr_zastN hx hb hK hP hD hS 10 1 (by decide) (fun _ => R_10 _ _ _ _) rfl (j := t) (by omega) (by decide) (by decide) dX7_otherAction_93 (fun H locs hP hD hS => ?_)
        exact kr_vret hx hb hr hlocks hK hP hD hS (mem4 (by unfold m_oOther; first | (rw [if_neg c_1, if_pos c_3, if_pos c_4, if_neg c_5]; done) | simp only [if_neg c_1, if_pos c_3, if_pos c_4, if_neg c_5]) (by unfold n_oOther; first | (rw [if_neg c_1, if_pos c_3, if_pos c_4, if_neg c_5]; done) | simp only [if_neg c_1, if_pos c_3, if_pos c_4, if_neg c_5])) dX7_otherAction_94
      · refine lv_aload_n hx hb dX7_otherAction_80 rfl (lv_at hl 0 rfl) ?_
        refine kr_get (C := "MonitorWaysModel") (T := TX7) (N := 27) hx hb hts hin_X7 hown hK hP 0 (by decide) (R_0 _ _ _ _) rfl 5 (by decide) lk_f22 (fun _ h9 => h9) rfl dX7_otherAction_81 ?_
        refine lv_iload_n hx hb dX7_otherAction_84 rfl (lv_at hl 1 rfl) ?_
        refine lv_iconst (v := 3) hx hb dX7_otherAction_85 (by decide) ?_
        refine kr_iastN hx hb hK hP hD hS 5 0 (by decide) (fun _ => R_5 _ _ _ _) rfl (j := t) (by omega) (by decide) dX7_otherAction_86 (fun H locs hP hD hS => ?_)
        refine lv_aload_n hx hb dX7_otherAction_87 rfl (lv_at hl 0 rfl) ?_
        refine kr_get (C := "MonitorWaysModel") (T := TX7) (N := 27) hx hb hts hin_X7 hown hK hP 0 (by decide) (R_0 _ _ _ _) rfl 10 (by decide) lk_f39 (fun _ h9 => h9) rfl dX7_otherAction_88 ?_
        refine lv_iload_n hx hb dX7_otherAction_91 rfl (lv_at hl 1 rfl) ?_
        refine lv_iconst (v := 0) hx hb dX7_otherAction_92 (by decide) ?_
        refine kr_zastN hx hb hK hP hD hS 10 1 (by decide) (fun _ => R_10 _ _ _ _) rfl (j := t) (by omega) (by decide) (by decide) dX7_otherAction_93 (fun H locs hP hD hS => ?_)
        exact kr_vret hx hb hr hlocks hK hP hD hS (mem4 (by unfold m_oOther; first | (rw [if_neg c_1, if_pos c_3, if_pos c_4, if_pos c_5]; done) | simp only [if_neg c_1, if_pos c_3, if_pos c_4, if_pos c_5]) (by unfold n_oOther; first | (rw [if_neg c_1, if_pos c_3, if_pos c_4, if_pos c_5]; done) | simp only [if_neg c_1, if_pos c_3, if_pos c_4, if_pos c_5])) dX7_otherAction_94
  by_cases c_6 : x = 8
  · refine lv_tableIn (tgt := 95) (off := 94) hx hb dX7_otherAction_1 (by rw [c_6]; decide) (by rw [c_6]; decide) (by rw [c_6]; decide) (by decide) ?_
    refine lv_aload_n hx hb dX7_otherAction_95 rfl (lv_at hl 0 rfl) ?_
    refine lv_iload_n hx hb dX7_otherAction_96 rfl (lv_at hl 3 rfl) ?_
    refine kr_topi (y := nI u) (hou (Or.inr c_6)) ?_
    refine kr_callVv (As := [.int (nI u)]) (rest := []) ⟨hx, hb, hml, hown, hts⟩ (c_oUnpark l D gc ad ln iv lv u (by omega)) (cwV 1 hts (goodV (fun _ h => tcons h) tw_736 tw_738 ts_44 tw_8 tw_739) rfl rfl rfl (by decide +kernel) ⟨Nat.le_of_ble_eq_true rfl, Nat.le_of_ble_eq_true rfl⟩) (kr_recv hK hP 0 (by decide) (R_0 _ _ _ _) rfl) hK hP hD hS hA rfl hl.1 rfl (Nat.le_of_ble_eq_true rfl) dX7_otherAction_97 ⟨Nat.le_of_ble_eq_true rfl, Nat.le_of_ble_eq_true rfl⟩ (fun H locs hP hD hS => ?_)
    exact kr_vret hx hb hr hlocks hK hP hD hS (mem4 (by unfold m_oOther; first | (rw [if_neg c_1, if_neg c_3, if_pos c_6]; done) | simp only [if_neg c_1, if_neg c_3, if_pos c_6]) (by unfold n_oOther; first | (rw [if_neg c_1, if_neg c_3, if_pos c_6]; done) | simp only [if_neg c_1, if_neg c_3, if_pos c_6])) dX7_otherAction_100
  by_cases c_7 : x = 9
  · refine lv_tableIn (tgt := 118) (off := 117) hx hb dX7_otherAction_1 (by rw [c_7]; decide) (by rw [c_7]; decide) (by rw [c_7]; decide) (by decide) ?_
    refine lv_aload_n hx hb dX7_otherAction_118 rfl (lv_at hl 0 rfl) ?_
    refine lv_iload_n hx hb dX7_otherAction_119 rfl (lv_at hl 1 rfl) ?_
    refine lv_iconst (v := 0) hx hb dX7_otherAction_120 (by decide) ?_
    refine kr_callVv (As := [.int (nI t), .int 0]) (rest := []) ⟨hx, hb, hml, hown, hts⟩ (c_oBroken l D gc ad ln iv lv t (by omega) 0) (cwV 2 hts (goodV (fun _ h => tcons h) tw_744 tw_746 ts_46 tw_8 tw_747) rfl rfl rfl (by decide +kernel) ⟨Nat.le_of_ble_eq_true rfl, Nat.le_of_ble_eq_true rfl⟩) (kr_recv hK hP 0 (by decide) (R_0 _ _ _ _) rfl) hK hP hD hS hA rfl hl.1 rfl (Nat.le_of_ble_eq_true rfl) dX7_otherAction_121 ⟨Nat.le_of_ble_eq_true rfl, Nat.le_of_ble_eq_true rfl⟩ (fun H locs hP hD hS => ?_)
    exact kr_vret hx hb hr hlocks hK hP hD hS (mem4 (by unfold m_oOther; first | (rw [if_neg c_1, if_neg c_3, if_neg c_6, if_pos c_7]; done) | simp only [if_neg c_1, if_neg c_3, if_neg c_6, if_pos c_7]) (by unfold n_oOther; first | (rw [if_neg c_1, if_neg c_3, if_neg c_6, if_pos c_7]; done) | simp only [if_neg c_1, if_neg c_3, if_neg c_6, if_pos c_7])) dX7_otherAction_124
  by_cases c_8 : x = 10
  · refine lv_tableIn (tgt := 118) (off := 117) hx hb dX7_otherAction_1 (by rw [c_8]; decide) (by rw [c_8]; decide) (by rw [c_8]; decide) (by decide) ?_
    refine lv_aload_n hx hb dX7_otherAction_118 rfl (lv_at hl 0 rfl) ?_
    refine lv_iload_n hx hb dX7_otherAction_119 rfl (lv_at hl 1 rfl) ?_
    refine lv_iconst (v := 0) hx hb dX7_otherAction_120 (by decide) ?_
    refine kr_callVv (As := [.int (nI t), .int 0]) (rest := []) ⟨hx, hb, hml, hown, hts⟩ (c_oBroken l D gc ad ln iv lv t (by omega) 0) (cwV 2 hts (goodV (fun _ h => tcons h) tw_744 tw_746 ts_46 tw_8 tw_747) rfl rfl rfl (by decide +kernel) ⟨Nat.le_of_ble_eq_true rfl, Nat.le_of_ble_eq_true rfl⟩) (kr_recv hK hP 0 (by decide) (R_0 _ _ _ _) rfl) hK hP hD hS hA rfl hl.1 rfl (Nat.le_of_ble_eq_true rfl) dX7_otherAction_121 ⟨Nat.le_of_ble_eq_true rfl, Nat.le_of_ble_eq_true rfl⟩ (fun H locs hP hD hS => ?_)
    exact kr_vret hx hb hr hlocks hK hP hD hS (mem4 (by unfold m_oOther; first | (rw [if_neg c_1, if_neg c_3, if_neg c_6, if_neg c_7, if_pos c_8]; done) | simp only [if_neg c_1, if_neg c_3, if_neg c_6, if_neg c_7, if_pos c_8]) (by unfold n_oOther; first | (rw [if_neg c_1, if_neg c_3, if_neg c_6, if_neg c_7, if_pos c_8]; done) | simp only [if_neg c_1, if_neg c_3, if_neg c_6, if_neg c_7, if_pos c_8])) dX7_otherAction_124
  by_cases c_9 : x = 11
  · refine lv_tableIn (tgt := 101) (off := 100) hx hb dX7_otherAction_1 (by rw [c_9]; decide) (by rw [c_9]; decide) (by rw [c_9]; decide) (by decide) ?_
    refine lv_aload_n hx hb dX7_otherAction_101 rfl (lv_at hl 0 rfl) ?_
    refine lv_iload_n hx hb dX7_otherAction_102 rfl (lv_at hl 1 rfl) ?_
    refine lv_bipush (v := 8) hx hb dX7_otherAction_103 (by decide) ?_
    refine lv_iload_n hx hb dX7_otherAction_105 rfl (lv_at hl 3 rfl) ?_
    refine lv_iadd hx hb dX7_otherAction_106 ?_
    refine kr_callVv (As := [.int (nI t), .int (8 + a)]) (rest := []) ⟨hx, hb, hml, hown, hts⟩ (c_oPut l D gc ad ln iv lv t (by omega) (8 + a)) (cwV 2 hts (goodV (fun _ h => tcons h) tw_715 tw_717 ts_39 tw_8 tw_718) rfl rfl rfl (by decide +kernel) ⟨Nat.le_of_ble_eq_true rfl, Nat.le_of_ble_eq_true rfl⟩) (kr_recv hK hP 0 (by decide) (R_0 _ _ _ _) rfl) hK hP hD hS hA rfl hl.1 rfl (Nat.le_of_ble_eq_true rfl) dX7_otherAction_107 ⟨Nat.le_of_ble_eq_true rfl, Nat.le_of_ble_eq_true rfl⟩ (fun H locs hP hD hS => ?_)
    exact kr_vret hx hb hr hlocks hK hP hD hS (mem4 (by unfold m_oOther; first | (rw [if_neg c_1, if_neg c_3, if_neg c_6, if_neg c_7, if_neg c_8, if_pos c_9]; done) | simp only [if_neg c_1, if_neg c_3, if_neg c_6, if_neg c_7, if_neg c_8, if_pos c_9]) (by unfold n_oOther; first | (rw [if_neg c_1, if_neg c_3, if_neg c_6, if_neg c_7, if_neg c_8, if_pos c_9]; done) | simp only [if_neg c_1, if_neg c_3, if_neg c_6, if_neg c_7, if_neg c_8, if_pos c_9])) dX7_otherAction_110
  by_cases c_10 : x = 12
  · refine lv_tableIn (tgt := 111) (off := 110) hx hb dX7_otherAction_1 (by rw [c_10]; decide) (by rw [c_10]; decide) (by rw [c_10]; decide) (by decide) ?_
    refine lv_aload_n hx hb dX7_otherAction_111 rfl (lv_at hl 0 rfl) ?_
    refine lv_iload_n hx hb dX7_otherAction_112 rfl (lv_at hl 1 rfl) ?_
    refine lv_iconst (v := 1) hx hb dX7_otherAction_113 (by decide) ?_
    refine kr_callVv (As := [.int (nI t), .int 1]) (rest := []) ⟨hx, hb, hml, hown, hts⟩ (c_oBroken l D gc ad ln iv lv t (by omega) 1) (cwV 2 hts (goodV (fun _ h => tcons h) tw_744 tw_746 ts_46 tw_8 tw_747) rfl rfl rfl (by decide +kernel) ⟨Nat.le_of_ble_eq_true rfl, Nat.le_of_ble_eq_true rfl⟩) (kr_recv hK hP 0 (by decide) (R_0 _ _ _ _) rfl) hK hP hD hS hA rfl hl.1 rfl (Nat.le_of_ble_eq_true rfl) dX7_otherAction_114 ⟨Nat.le_of_ble_eq_true rfl, Nat.le_of_ble_eq_true rfl⟩ (fun H locs hP hD hS => ?_)
    exact kr_vret hx hb hr hlocks hK hP hD hS (mem4 (by unfold m_oOther; first | (rw [if_neg c_1, if_neg c_3, if_neg c_6, if_neg c_7, if_neg c_8, if_neg c_9, if_pos c_10]; done) | simp only [if_neg c_1, if_neg c_3, if_neg c_6, if_neg c_7, if_neg c_8, if_neg c_9, if_pos c_10]) (by unfold n_oOther; first | (rw [if_neg c_1, if_neg c_3, if_neg c_6, if_neg c_7, if_neg c_8, if_neg c_9, if_pos c_10]; done) | simp only [if_neg c_1, if_neg c_3, if_neg c_6, if_neg c_7, if_neg c_8, if_neg c_9, if_pos c_10])) dX7_otherAction_117
  refine lv_tableOut (tgt := 118) hx hb dX7_otherAction_1 (sw_6_12 c_1 c_3 c_6 c_7 c_8 c_9 c_10) (by decide) ?_
  refine lv_aload_n hx hb dX7_otherAction_118 rfl (lv_at hl 0 rfl) ?_
  refine lv_iload_n hx hb dX7_otherAction_119 rfl (lv_at hl 1 rfl) ?_
  refine lv_iconst (v := 0) hx hb dX7_otherAction_120 (by decide) ?_
  refine kr_callVv (As := [.int (nI t), .int 0]) (rest := []) ⟨hx, hb, hml, hown, hts⟩ (c_oBroken l D gc ad ln iv lv t (by omega) 0) (cwV 2 hts (goodV (fun _ h => tcons h) tw_744 tw_746 ts_46 tw_8 tw_747) rfl rfl rfl (by decide +kernel) ⟨Nat.le_of_ble_eq_true rfl, Nat.le_of_ble_eq_true rfl⟩) (kr_recv hK hP 0 (by decide) (R_0 _ _ _ _) rfl) hK hP hD hS hA rfl hl.1 rfl (Nat.le_of_ble_eq_true rfl) dX7_otherAction_121 ⟨Nat.le_of_ble_eq_true rfl, Nat.le_of_ble_eq_true rfl⟩ (fun H locs hP hD hS => ?_)
  exact kr_vret hx hb hr hlocks hK hP hD hS (mem4 (by unfold m_oOther; first | (rw [if_neg c_1, if_neg c_3, if_neg c_6, if_neg c_7, if_neg c_8, if_neg c_9, if_neg c_10]; done) | simp only [if_neg c_1, if_neg c_3, if_neg c_6, if_neg c_7, if_neg c_8, if_neg c_9, if_neg c_10]) (by unfold n_oOther; first | (rw [if_neg c_1, if_neg c_3, if_neg c_6, if_neg c_7, if_neg c_8, if_neg c_9, if_neg c_10]; done) | simp only [if_neg c_1, if_neg c_3, if_neg c_6, if_neg c_7, if_neg c_8, if_neg c_9, if_neg c_10])) dX7_otherAction_124
def r_oRmay (iv : Nat → Nat → Int32) (t mm u : Nat) (way : Int32) (p : Nat) : Int32 := if (r_oAction iv t p) = 4 then if iv 12 mm = nI t then if (if iv 14 mm ≤ 0 then (0 : Int32) else 1) = 0 then (if way = 0 then (1 : Int32) else 0) else if way = 1 then 1 else if way = 2 then 1 else 0 else (if way = 0 then (1 : Int32) else 0) else if way = 0 then if (r_oAction iv t p) = 0 then if iv 12 mm < 0 then 1 else (if iv 12 mm = nI t then (1 : Int32) else 0) else if (r_oAction iv t p) = 9 then if iv 9 t = 0 then (if iv 5 u = 4 then (1 : Int32) else 0) else 1 else 1 else 0
theorem nb_oRmay (iv : Nat → Nat → Int32) (t mm u : Nat) (way : Int32) (p : Nat) : narrow .boolean (.int (r_oRmay iv t mm u way p)) = .int (r_oRmay iv t mm u way p) := by
  unfold r_oRmay; repeat' split
  all_goals rfl
set_option maxHeartbeats 4000000 in
set_option maxRecDepth 100000 in
theorem c_oRmay (l : Launch) (D : va_G) (gc : Nat → ClassId) (ad ln : Nat → Nat) (iv : Nat → Nat → Int32) (lv : Nat → Nat → Int64) (t mm u : Nat) (ht : t < 4) (hmm : mm < 2) (hu : u < 4) (way : Int32) (p : Nat) (hp : iv 4 t = nI p) (hp6 : p < 6) (hom : r_oAction iv t p = 4 ∨ r_oAction iv t p = 0 → r_oOperand iv t p = nI mm) (hou : r_oAction iv t p = 9 → r_oOperand iv t p = nI u) : kMi l yX7_runningMay wX7_runningMay ({ frames := 1, cells := 0, slots := 0, locals := 21 }) D vwCl (kT gc) 20 (rE gc) [.ref (ad 0), .int (nI t), .int way] (ad, ln, iv, lv) (ad, ln, iv, lv) (r_oRmay iv t mm u way p) := by
  refine ki_start (cc := cX7_runningMay) (maxL := 6) (ret := (some .boolean)) (by decide) rfl (Nat.le_of_ble_eq_true rfl) ?_
  intro p9 e9 s m9 below meth c9 A ls hx hb hr hts hown hlocks hml hA hK hP hD hS hl
  have hl : lv_has ls 6 [(0, .ref (ad 0)), (1, .int (nI t)), (2, .int way)] := hl
  have hown : s.vm.findClass "MonitorWaysModel" = some m9.cls := hown
  have hin_X7 : ∀ w ∈ u_ws "MonitorWaysModel" TX7 27, w ∈ wX7_runningMay := fun w h => tcons (inX7 w h)
  have lk_f35 := hts _ (tcons tw_583)
  have lk_f22 := hts _ (tcons tw_579)
  have lk_f45 := hts _ (tcons tw_586)
  have lk_f51 := hts _ (tcons tw_588)
  refine lv_aload_n hx hb dX7_runningMay_0 rfl (lv_at hl 0 rfl) ?_
  refine lv_iload_n hx hb dX7_runningMay_1 rfl (lv_at hl 1 rfl) ?_
  refine kr_callVi (As := [.int (nI t)]) (rest := []) ⟨hx, hb, hml, hown, hts⟩ (c_oAction l D gc ad ln iv lv t (by omega) p hp hp6) (cwV 1 hts (goodV (fun _ h => tcons h) tw_687 tw_689 ts_32 tw_8 tw_690) rfl rfl rfl (by decide +kernel) ⟨Nat.le_of_ble_eq_true rfl, Nat.le_of_ble_eq_true rfl⟩) (kr_recv hK hP 0 (by decide) (R_0 _ _ _ _) rfl) hK hP hD hS hA rfl hl.1 rfl (Nat.le_of_ble_eq_true rfl) dX7_runningMay_2 ⟨Nat.le_of_ble_eq_true rfl, Nat.le_of_ble_eq_true rfl⟩ (fun H locs hP hD hS => ?_)
  refine lv_istore_n (lv' := [(3, .int (r_oAction iv t p)), (0, .ref (ad 0)), (1, .int (nI t)), (2, .int way)]) hx hb dX7_runningMay_5 rfl hl (by decide) rfl (fun ls hl => ?_)
  refine lv_aload_n hx hb dX7_runningMay_6 rfl (lv_at hl 1 rfl) ?_
  refine lv_iload_n hx hb dX7_runningMay_7 rfl (lv_at hl 2 rfl) ?_
  refine kr_callVi (As := [.int (nI t)]) (rest := []) ⟨hx, hb, hml, hown, hts⟩ (c_oOperand l D gc ad ln iv lv t (by omega) p hp hp6) (cwV 1 hts (goodV (fun _ h => tcons h) tw_691 tw_693 ts_33 tw_8 tw_694) rfl rfl rfl (by decide +kernel) ⟨Nat.le_of_ble_eq_true rfl, Nat.le_of_ble_eq_true rfl⟩) (kr_recv hK hP 0 (by decide) (R_0 _ _ _ _) rfl) hK hP hD hS hA rfl hl.1 rfl (Nat.le_of_ble_eq_true rfl) dX7_runningMay_8 ⟨Nat.le_of_ble_eq_true rfl, Nat.le_of_ble_eq_true rfl⟩ (fun H locs hP hD hS => ?_)
  refine lv_istore (lv' := [(4, .int (r_oOperand iv t p)), (3, .int (r_oAction iv t p)), (0, .ref (ad 0)), (1, .int (nI t)), (2, .int way)]) hx hb dX7_runningMay_11 hl (by decide) rfl (fun ls hl => ?_)
  refine lv_iload_n hx hb dX7_runningMay_13 rfl (lv_at hl 1 rfl) ?_
  refine lv_iconst (v := 4) hx hb dX7_runningMay_14 (by decide) ?_
  refine lv_icmp_ne (tgt := 79) hx hb dX7_runningMay_15 (by decide) (fun c_1 => ?_) (fun c_1 => ?_)
  · refine lv_iload_n hx hb dX7_runningMay_79 rfl (lv_at hl 4 rfl) ?_
    refine lv_if_eq (tgt := 85) hx hb dX7_runningMay_80 (by decide) (fun c_2 => ?_) (fun c_2 => ?_)
    · refine lv_iload_n hx hb dX7_runningMay_85 rfl (lv_at hl 1 rfl) ?_
      refine lv_if_ne (tgt := 116) hx hb dX7_runningMay_86 (by decide) (fun c_3 => ?_) (fun c_3 => ?_)
      · refine lv_iload_n hx hb dX7_runningMay_116 rfl (lv_at hl 1 rfl) ?_
        refine lv_bipush (v := 9) hx hb dX7_runningMay_117 (by decide) ?_
        refine lv_icmp_ne (tgt := 142) hx hb dX7_runningMay_119 (by decide) (fun c_4 => ?_) (fun c_4 => ?_)
        · refine lv_iconst (v := 1) hx hb dX7_runningMay_142 (by decide) ?_
          refine lv_goto (tgt := 147) hx hb dX7_runningMay_143 (by decide) ?_
          exact kr_zret hx hb hr hlocks hK hP hD hS (by decide) (by unfold r_oRmay; rw [if_neg c_1, if_pos c_2, if_neg c_3, if_neg c_4]) rfl dX7_runningMay_147
        · refine lv_aload_n hx hb dX7_runningMay_122 rfl (lv_at hl 2 rfl) ?_
          refine kr_get (C := "MonitorWaysModel") (T := TX7) (N := 27) hx hb hts hin_X7 hown hK hP 0 (by decide) (R_0 _ _ _ _) rfl 9 (by decide) lk_f35 (fun _ h9 => h9) rfl dX7_runningMay_123 ?_
          refine lv_iload_n hx hb dX7_runningMay_126 rfl (lv_at hl 3 rfl) ?_
          refine kr_zaldN hx hb hK hP 9 1 (by decide) (R_9 _ _ _ _) rfl (j := t) (by omega) (by decide) dX7_runningMay_127 ?_
          refine lv_if_ne (tgt := 142) hx hb dX7_runningMay_128 (by decide) (fun c_5 => ?_) (fun c_5 => ?_)
          · refine lv_iconst (v := 1) hx hb dX7_runningMay_142 (by decide) ?_
            refine lv_goto (tgt := 147) hx hb dX7_runningMay_143 (by decide) ?_
            exact kr_zret hx hb hr hlocks hK hP hD hS (by decide) (by unfold r_oRmay; rw [if_neg c_1, if_pos c_2, if_neg c_3, if_pos c_4, if_neg c_5]) rfl dX7_runningMay_147
          · refine lv_aload_n hx hb dX7_runningMay_131 rfl (lv_at hl 2 rfl) ?_
            refine kr_get (C := "MonitorWaysModel") (T := TX7) (N := 27) hx hb hts hin_X7 hown hK hP 0 (by decide) (R_0 _ _ _ _) rfl 5 (by decide) lk_f22 (fun _ h9 => h9) rfl dX7_runningMay_132 ?_
            refine lv_iload hx hb dX7_runningMay_135 (lv_at hl 0 rfl) ?_
            refine kr_topi (y := nI u) (hou c_4) ?_
            refine kr_ialdN hx hb hK hP 5 0 (by decide) (R_5 _ _ _ _) rfl (j := u) (by omega) (by decide) dX7_runningMay_137 ?_
            refine lv_iconst (v := 4) hx hb dX7_runningMay_138 (by decide) ?_
            refine kr_tern (M := 147) (cnd := iv 5 u = 4) (a := 1) (b := 0) (rest := []) (fun ja jb => ?_) ?_
            · refine lv_icmp_ne (tgt := 146) hx hb dX7_runningMay_139 (by decide) (fun c_6 => ?_) (fun c_6 => ?_)
              · refine lv_iconst (v := 0) hx hb dX7_runningMay_146 (by decide) ?_
                exact jb c_6
              · refine lv_iconst (v := 1) hx hb dX7_runningMay_142 (by decide) ?_
                refine lv_goto (tgt := 147) hx hb dX7_runningMay_143 (by decide) ?_
                exact ja c_6
            exact kr_zret hx hb hr hlocks hK hP hD hS (nb_ite (by decide) (by decide)) (by unfold r_oRmay; rw [if_neg c_1, if_pos c_2, if_neg c_3, if_pos c_4, if_pos c_5]) rfl dX7_runningMay_147
      · refine lv_aload_n hx hb dX7_runningMay_89 rfl (lv_at hl 2 rfl) ?_
        refine kr_get (C := "MonitorWaysModel") (T := TX7) (N := 27) hx hb hts hin_X7 hown hK hP 0 (by decide) (R_0 _ _ _ _) rfl 12 (by decide) lk_f45 (fun _ h9 => h9) rfl dX7_runningMay_90 ?_
        refine lv_iload hx hb dX7_runningMay_93 (lv_at hl 0 rfl) ?_
        refine kr_topi (y := nI mm) (hom (Or.inr c_3)) ?_
        refine kr_ialdN hx hb hK hP 12 0 (by decide) (R_12 _ _ _ _) rfl (j := mm) (by omega) (by decide) dX7_runningMay_95 ?_
        refine lv_if_lt (tgt := 110) hx hb dX7_runningMay_96 (by decide) (fun c_7 => ?_) (fun c_7 => ?_)
        · refine lv_iconst (v := 1) hx hb dX7_runningMay_110 (by decide) ?_
          refine lv_goto (tgt := 115) hx hb dX7_runningMay_111 (by decide) ?_
          exact kr_zret hx hb hr hlocks hK hP hD hS (by decide) (by unfold r_oRmay; rw [if_neg c_1, if_pos c_2, if_pos c_3, if_pos c_7]) rfl dX7_runningMay_115
        · refine lv_aload_n hx hb dX7_runningMay_99 rfl (lv_at hl 2 rfl) ?_
          refine kr_get (C := "MonitorWaysModel") (T := TX7) (N := 27) hx hb hts hin_X7 hown hK hP 0 (by decide) (R_0 _ _ _ _) rfl 12 (by decide) lk_f45 (fun _ h9 => h9) rfl dX7_runningMay_100 ?_
          refine lv_iload hx hb dX7_runningMay_103 (lv_at hl 0 rfl) ?_
          refine kr_topi (y := nI mm) (hom (Or.inr c_3)) ?_
          refine kr_ialdN hx hb hK hP 12 0 (by decide) (R_12 _ _ _ _) rfl (j := mm) (by omega) (by decide) dX7_runningMay_105 ?_
          refine lv_iload_n hx hb dX7_runningMay_106 rfl (lv_at hl 3 rfl) ?_
          refine kr_tern (M := 115) (cnd := iv 12 mm = nI t) (a := 1) (b := 0) (rest := []) (fun ja jb => ?_) ?_
          · refine lv_icmp_ne (tgt := 114) hx hb dX7_runningMay_107 (by decide) (fun c_8 => ?_) (fun c_8 => ?_)
            · refine lv_iconst (v := 0) hx hb dX7_runningMay_114 (by decide) ?_
              exact jb c_8
            · refine lv_iconst (v := 1) hx hb dX7_runningMay_110 (by decide) ?_
              refine lv_goto (tgt := 115) hx hb dX7_runningMay_111 (by decide) ?_
              exact ja c_8
          exact kr_zret hx hb hr hlocks hK hP hD hS (nb_ite (by decide) (by decide)) (by unfold r_oRmay; rw [if_neg c_1, if_pos c_2, if_pos c_3, if_neg c_7]) rfl dX7_runningMay_115
    · refine lv_iconst (v := 0) hx hb dX7_runningMay_83 (by decide) ?_
      exact kr_zret hx hb hr hlocks hK hP hD hS (by decide) (by unfold r_oRmay; rw [if_neg c_1, if_neg c_2]) rfl dX7_runningMay_84
  · refine lv_aload_n hx hb dX7_runningMay_18 rfl (lv_at hl 2 rfl) ?_
    refine kr_get (C := "MonitorWaysModel") (T := TX7) (N := 27) hx hb hts hin_X7 hown hK hP 0 (by decide) (R_0 _ _ _ _) rfl 12 (by decide) lk_f45 (fun _ h9 => h9) rfl dX7_runningMay_19 ?_
    refine lv_iload hx hb dX7_runningMay_22 (lv_at hl 0 rfl) ?_
    refine kr_topi (y := nI mm) (hom (Or.inl c_1)) ?_
    refine kr_ialdN hx hb hK hP 12 0 (by decide) (R_12 _ _ _ _) rfl (j := mm) (by omega) (by decide) dX7_runningMay_24 ?_
    refine lv_iload_n hx hb dX7_runningMay_25 rfl (lv_at hl 3 rfl) ?_
    refine lv_icmp_ne (tgt := 43) hx hb dX7_runningMay_26 (by decide) (fun c_9 => ?_) (fun c_9 => ?_)
    · refine lv_iconst (v := 0) hx hb dX7_runningMay_43 (by decide) ?_
      refine lv_istore (lv' := [(5, .int 0), (4, .int (r_oOperand iv t p)), (3, .int (r_oAction iv t p)), (0, .ref (ad 0)), (1, .int (nI t)), (2, .int way)]) hx hb dX7_runningMay_44 hl (by decide) rfl (fun ls hl => ?_)
      refine lv_iload hx hb dX7_runningMay_46 (lv_at hl 0 rfl) ?_
      refine lv_if_eq (tgt := 69) hx hb dX7_runningMay_48 (by decide) (fun c_10 => ?_) (fun c_10 => absurd (by decide) c_10)
      refine lv_iload_n hx hb dX7_runningMay_69 rfl (lv_at hl 5 rfl) ?_
      refine kr_tern (M := 78) (cnd := way = 0) (a := 1) (b := 0) (rest := []) (fun ja jb => ?_) ?_
      · refine lv_if_ne (tgt := 77) hx hb dX7_runningMay_70 (by decide) (fun c_11 => ?_) (fun c_11 => ?_)
        · refine lv_iconst (v := 0) hx hb dX7_runningMay_77 (by decide) ?_
          exact jb c_11
        · refine lv_iconst (v := 1) hx hb dX7_runningMay_73 (by decide) ?_
          refine lv_goto (tgt := 78) hx hb dX7_runningMay_74 (by decide) ?_
          exact ja c_11
      exact kr_zret hx hb hr hlocks hK hP hD hS (nb_ite (by decide) (by decide)) (by unfold r_oRmay; rw [if_pos c_1, if_neg c_9]) rfl dX7_runningMay_78
    · refine lv_aload_n hx hb dX7_runningMay_29 rfl (lv_at hl 2 rfl) ?_
      refine kr_get (C := "MonitorWaysModel") (T := TX7) (N := 27) hx hb hts hin_X7 hown hK hP 0 (by decide) (R_0 _ _ _ _) rfl 14 (by decide) lk_f51 (fun _ h9 => h9) rfl dX7_runningMay_30 ?_
      refine lv_iload hx hb dX7_runningMay_33 (lv_at hl 0 rfl) ?_
      refine kr_topi (y := nI mm) (hom (Or.inl c_1)) ?_
      refine kr_ialdN hx hb hK hP 14 0 (by decide) (R_14 _ _ _ _) rfl (j := mm) (by omega) (by decide) dX7_runningMay_35 ?_
      refine kr_tern (M := 44) (cnd := iv 14 mm ≤ 0) (a := 0) (b := 1) (rest := []) (fun ja jb => ?_) ?_
      · refine lv_if_le (tgt := 43) hx hb dX7_runningMay_36 (by decide) (fun c_12 => ?_) (fun c_12 => ?_)
        · refine lv_iconst (v := 0) hx hb dX7_runningMay_43 (by decide) ?_
          exact ja c_12
        · refine lv_iconst (v := 1) hx hb dX7_runningMay_39 (by decide) ?_
          refine lv_goto (tgt := 44) hx hb dX7_runningMay_40 (by decide) ?_
          exact jb c_12
      refine lv_istore (lv' := [(5, .int (if iv 14 mm ≤ 0 then (0 : Int32) else 1)), (4, .int (r_oOperand iv t p)), (3, .int (r_oAction iv t p)), (0, .ref (ad 0)), (1, .int (nI t)), (2, .int way)]) hx hb dX7_runningMay_44 hl (by decide) rfl (fun ls hl => ?_)
      refine lv_iload hx hb dX7_runningMay_46 (lv_at hl 0 rfl) ?_
      refine lv_if_eq (tgt := 69) hx hb dX7_runningMay_48 (by decide) (fun c_13 => ?_) (fun c_13 => ?_)
      · refine lv_iload_n hx hb dX7_runningMay_69 rfl (lv_at hl 5 rfl) ?_
        refine kr_tern (M := 78) (cnd := way = 0) (a := 1) (b := 0) (rest := []) (fun ja jb => ?_) ?_
        · refine lv_if_ne (tgt := 77) hx hb dX7_runningMay_70 (by decide) (fun c_14 => ?_) (fun c_14 => ?_)
          · refine lv_iconst (v := 0) hx hb dX7_runningMay_77 (by decide) ?_
            exact jb c_14
          · refine lv_iconst (v := 1) hx hb dX7_runningMay_73 (by decide) ?_
            refine lv_goto (tgt := 78) hx hb dX7_runningMay_74 (by decide) ?_
            exact ja c_14
        exact kr_zret hx hb hr hlocks hK hP hD hS (nb_ite (by decide) (by decide)) (by unfold r_oRmay; rw [if_pos c_1, if_pos c_9, if_pos c_13]) rfl dX7_runningMay_78
      · refine lv_iload_n hx hb dX7_runningMay_51 rfl (lv_at hl 5 rfl) ?_
        refine lv_iconst (v := 1) hx hb dX7_runningMay_52 (by decide) ?_
        refine lv_icmp_eq (tgt := 61) hx hb dX7_runningMay_53 (by decide) (fun c_15 => ?_) (fun c_15 => ?_)
        · refine lv_iconst (v := 1) hx hb dX7_runningMay_61 (by decide) ?_
          refine lv_goto (tgt := 78) hx hb dX7_runningMay_62 (by decide) ?_
          exact kr_zret hx hb hr hlocks hK hP hD hS (by decide) (by unfold r_oRmay; rw [if_pos c_1, if_pos c_9, if_neg c_13, if_pos c_15]) rfl dX7_runningMay_78
        · refine lv_iload_n hx hb dX7_runningMay_56 rfl (lv_at hl 5 rfl) ?_
          refine lv_iconst (v := 2) hx hb dX7_runningMay_57 (by decide) ?_
          refine lv_icmp_ne (tgt := 65) hx hb dX7_runningMay_58 (by decide) (fun c_16 => ?_) (fun c_16 => ?_)
          · refine lv_iconst (v := 0) hx hb dX7_runningMay_65 (by decide) ?_
            refine lv_goto (tgt := 78) hx hb dX7_runningMay_66 (by decide) ?_
            exact kr_zret hx hb hr hlocks hK hP hD hS (by decide) (by unfold r_oRmay; rw [if_pos c_1, if_pos c_9, if_neg c_13, if_neg c_15, if_neg c_16]) rfl dX7_runningMay_78
          · refine lv_iconst (v := 1) hx hb dX7_runningMay_61 (by decide) ?_
            refine lv_goto (tgt := 78) hx hb dX7_runningMay_62 (by decide) ?_
            exact kr_zret hx hb hr hlocks hK hP hD hS (by decide) (by unfold r_oRmay; rw [if_pos c_1, if_pos c_9, if_neg c_13, if_neg c_15, if_pos c_16]) rfl dX7_runningMay_78
/-- what a choice of thread t rests on, in the reference: its place p, its operand as a monitor mm or a thread u -/
def okR (iv : Nat → Nat → Int32) (t p mm u : Nat) : Prop := iv 4 t = nI p ∧ p ≤ 6 ∧ (iv 5 t = 0 → p < 6) ∧ (iv 5 t = 1 ∨ iv 5 t = 2 ∨ iv 5 t = 3 → 1 ≤ p) ∧
  (iv 5 t = 0 → r_oAction iv t p < 6 → r_oOperand iv t p = nI mm) ∧ (iv 5 t = 0 → r_oAction iv t p = 6 ∨ r_oAction iv t p = 8 ∨ r_oAction iv t p = 9 → r_oOperand iv t p = nI u) ∧
  (iv 5 t = 1 ∨ iv 5 t = 2 → iv 2 (6 * t + p - 1) = nI mm) ∧ narrow .boolean (.int (iv 9 t)) = .int (iv 9 t)
def r_oMay (iv : Nat → Nat → Int32) (t mm u p : Nat) (way : Int32) : Int32 := if iv 5 t = 0 then (r_oRmay iv t mm u way p) else if iv 5 t = 1 then if way = 1 then iv 9 t else if way = 2 then if iv 0 0 = 0 then 0 else if iv 11 t = 0 then 1 else 0 else if way = 3 then (if (r_oTimed iv t p) = 0 then (0 : Int32) else 1) else 0 else if iv 5 t = 2 then if way = 0 then (if 0 ≤ iv 12 mm then (0 : Int32) else 1) else 0 else if iv 5 t = 3 then if way = 1 then iv 9 t else if way = 3 then if iv 0 0 = 0 then 0 else (if iv 11 t = 0 then (1 : Int32) else 0) else 0 else 0
set_option maxHeartbeats 4000000 in
set_option maxRecDepth 100000 in
theorem c_oMay (l : Launch) (D : va_G) (gc : Nat → ClassId) (ad ln : Nat → Nat) (iv : Nat → Nat → Int32) (lv : Nat → Nat → Int64) (t mm u p : Nat) (ht : t < 4) (hmm : mm < 2) (hu : u < 4) (way : Int32) (hR : okR iv t p mm u) : kMi l yX7_may wX7_may ({ frames := 2, cells := 0, slots := 0, locals := 46 }) D vwCl (kT gc) 20 (rE gc) [.ref (ad 0), .int (nI t), .int way] (ad, ln, iv, lv) (ad, ln, iv, lv) (r_oMay iv t mm u p way) := by
  refine ki_start (cc := cX7_may) (maxL := 3) (ret := (some .boolean)) (by decide) rfl (Nat.le_of_ble_eq_true rfl) ?_
  intro p9 e9 s m9 below meth c9 A ls hx hb hr hts hown hlocks hml hA hK hP hD hS hl
  have hl : lv_has ls 3 [(0, .ref (ad 0)), (1, .int (nI t)), (2, .int way)] := hl
  have hown : s.vm.findClass "MonitorWaysModel" = some m9.cls := hown
  have hin_X7 : ∀ w ∈ u_ws "MonitorWaysModel" TX7 27, w ∈ wX7_may := fun w h => tcons (inX7 w h)
  have lk_f22 := hts _ (tcons tw_579)
  have lk_f69 := hts _ (tcons tw_574)
  have lk_f42 := hts _ (tcons tw_585)
  have lk_f35 := hts _ (tcons tw_583)
  have lk_f45 := hts _ (tcons tw_586)
  refine lv_aload_n hx hb dX7_may_0 rfl (lv_at hl 0 rfl) ?_
  refine kr_get (C := "MonitorWaysModel") (T := TX7) (N := 27) hx hb hts hin_X7 hown hK hP 0 (by decide) (R_0 _ _ _ _) rfl 5 (by decide) lk_f22 (fun _ h9 => h9) rfl dX7_may_1 ?_
  refine lv_iload_n hx hb dX7_may_4 rfl (lv_at hl 1 rfl) ?_
  refine kr_ialdN hx hb hK hP 5 0 (by decide) (R_5 _ _ _ _) rfl (j := t) (by omega) (by decide) dX7_may_5 ?_
  by_cases c_1 : iv 5 t = 0
  · refine lv_tableIn (tgt := 36) (off := 30) hx hb dX7_may_6 (by rw [c_1]; decide) (by rw [c_1]; decide) (by rw [c_1]; decide) (by decide) ?_
    refine lv_aload_n hx hb dX7_may_36 rfl (lv_at hl 0 rfl) ?_
    refine lv_iload_n hx hb dX7_may_37 rfl (lv_at hl 1 rfl) ?_
    refine lv_iload_n hx hb dX7_may_38 rfl (lv_at hl 2 rfl) ?_
    refine kr_callVi (As := [.int (nI t), .int way]) (rest := []) ⟨hx, hb, hml, hown, hts⟩ (c_oRmay l D gc ad ln iv lv t mm u (by omega) hmm hu way p hR.1 (hR.2.2.1 c_1) (fun h => hR.2.2.2.2.1 c_1 (h.elim (fun h => by rw [h]; decide) (fun h => by rw [h]; decide))) (fun h => hR.2.2.2.2.2.1 c_1 (Or.inr (Or.inr h)))) (cwV 2 hts (goodV (fun _ h => tcons h) tw_683 tw_685 ts_31 tw_8 tw_686) rfl rfl rfl (by decide +kernel) ⟨Nat.le_of_ble_eq_true rfl, Nat.le_of_ble_eq_true rfl⟩) (kr_recv hK hP 0 (by decide) (R_0 _ _ _ _) rfl) hK hP hD hS hA rfl hl.1 rfl (Nat.le_of_ble_eq_true rfl) dX7_may_39 ⟨Nat.le_of_ble_eq_true rfl, Nat.le_of_ble_eq_true rfl⟩ (fun H locs hP hD hS => ?_)
    exact kr_zret hx hb hr hlocks hK hP hD hS (nb_oRmay iv t mm u way p) (by unfold r_oMay; rw [if_pos c_1]) rfl dX7_may_42
  by_cases c_2 : iv 5 t = 1
  · refine lv_tableIn (tgt := 43) (off := 37) hx hb dX7_may_6 (by rw [c_2]; decide) (by rw [c_2]; decide) (by rw [c_2]; decide) (by decide) ?_
    refine lv_iload_n hx hb dX7_may_43 rfl (lv_at hl 2 rfl) ?_
    refine lv_iconst (v := 1) hx hb dX7_may_44 (by decide) ?_
    refine lv_icmp_ne (tgt := 57) hx hb dX7_may_45 (by decide) (fun c_3 => ?_) (fun c_3 => ?_)
    · refine lv_iload_n hx hb dX7_may_57 rfl (lv_at hl 2 rfl) ?_
      refine lv_iconst (v := 2) hx hb dX7_may_58 (by decide) ?_
      refine lv_icmp_ne (tgt := 86) hx hb dX7_may_59 (by decide) (fun c_4 => ?_) (fun c_4 => ?_)
      · refine lv_iload_n hx hb dX7_may_86 rfl (lv_at hl 2 rfl) ?_
        refine lv_iconst (v := 3) hx hb dX7_may_87 (by decide) ?_
        refine lv_icmp_ne (tgt := 103) hx hb dX7_may_88 (by decide) (fun c_5 => ?_) (fun c_5 => ?_)
        · refine lv_iconst (v := 0) hx hb dX7_may_103 (by decide) ?_
          exact kr_zret hx hb hr hlocks hK hP hD hS (by decide) (by unfold r_oMay; rw [if_neg c_1, if_pos c_2, if_neg c_3, if_neg c_4, if_neg c_5]) rfl dX7_may_104
        · refine lv_aload_n hx hb dX7_may_91 rfl (lv_at hl 0 rfl) ?_
          refine lv_iload_n hx hb dX7_may_92 rfl (lv_at hl 1 rfl) ?_
          refine kr_callVi (As := [.int (nI t)]) (rest := []) ⟨hx, hb, hml, hown, hts⟩ (c_oTimed l D gc ad ln iv lv t (by omega) p hR.1 (hR.2.2.2.1 (Or.inl c_2)) hR.2.1) (cwV 1 hts (goodV (fun _ h => tcons h) tw_695 tw_697 ts_34 tw_8 tw_698) rfl rfl rfl (by decide +kernel) ⟨Nat.le_of_ble_eq_true rfl, Nat.le_of_ble_eq_true rfl⟩) (kr_recv hK hP 0 (by decide) (R_0 _ _ _ _) rfl) hK hP hD hS hA rfl hl.1 rfl (Nat.le_of_ble_eq_true rfl) dX7_may_93 ⟨Nat.le_of_ble_eq_true rfl, Nat.le_of_ble_eq_true rfl⟩ (fun H locs hP hD hS => ?_)
          refine kr_tern (M := 104) (cnd := (r_oTimed iv t p) = 0) (a := 0) (b := 1) (rest := []) (fun ja jb => ?_) ?_
          · refine lv_if_eq (tgt := 103) hx hb dX7_may_96 (by decide) (fun c_6 => ?_) (fun c_6 => ?_)
            · refine lv_iconst (v := 0) hx hb dX7_may_103 (by decide) ?_
              exact ja c_6
            · refine lv_iconst (v := 1) hx hb dX7_may_99 (by decide) ?_
              refine lv_goto (tgt := 104) hx hb dX7_may_100 (by decide) ?_
              exact jb c_6
          exact kr_zret hx hb hr hlocks hK hP hD hS (nb_ite (by decide) (by decide)) (by unfold r_oMay; rw [if_neg c_1, if_pos c_2, if_neg c_3, if_neg c_4, if_pos c_5]) rfl dX7_may_104
      · refine lv_aload_n hx hb dX7_may_62 rfl (lv_at hl 0 rfl) ?_
        refine kr_get (C := "MonitorWaysModel") (T := TX7) (N := 27) hx hb hts hin_X7 hown hK hP 0 (by decide) (R_0 _ _ _ _) rfl 0 (by decide) lk_f69 (fun _ h9 => h9) rfl dX7_may_63 ?_
        refine lv_if_eq (tgt := 82) hx hb dX7_may_66 (by decide) (fun c_7 => ?_) (fun c_7 => ?_)
        · refine lv_iconst (v := 0) hx hb dX7_may_82 (by decide) ?_
          refine lv_goto (tgt := 104) hx hb dX7_may_83 (by decide) ?_
          exact kr_zret hx hb hr hlocks hK hP hD hS (by decide) (by unfold r_oMay; rw [if_neg c_1, if_pos c_2, if_neg c_3, if_pos c_4, if_pos c_7]) rfl dX7_may_104
        · refine lv_aload_n hx hb dX7_may_69 rfl (lv_at hl 0 rfl) ?_
          refine kr_get (C := "MonitorWaysModel") (T := TX7) (N := 27) hx hb hts hin_X7 hown hK hP 0 (by decide) (R_0 _ _ _ _) rfl 11 (by decide) lk_f42 (fun _ h9 => h9) rfl dX7_may_70 ?_
          refine lv_iload_n hx hb dX7_may_73 rfl (lv_at hl 1 rfl) ?_
          refine kr_zaldN hx hb hK hP 11 1 (by decide) (R_11 _ _ _ _) rfl (j := t) (by omega) (by decide) dX7_may_74 ?_
          refine lv_if_ne (tgt := 82) hx hb dX7_may_75 (by decide) (fun c_8 => ?_) (fun c_8 => ?_)
          · refine lv_iconst (v := 0) hx hb dX7_may_82 (by decide) ?_
            refine lv_goto (tgt := 104) hx hb dX7_may_83 (by decide) ?_
            exact kr_zret hx hb hr hlocks hK hP hD hS (by decide) (by unfold r_oMay; rw [if_neg c_1, if_pos c_2, if_neg c_3, if_pos c_4, if_neg c_7, if_neg c_8]) rfl dX7_may_104
          · refine lv_iconst (v := 1) hx hb dX7_may_78 (by decide) ?_
            refine lv_goto (tgt := 104) hx hb dX7_may_79 (by decide) ?_
            exact kr_zret hx hb hr hlocks hK hP hD hS (by decide) (by unfold r_oMay; rw [if_neg c_1, if_pos c_2, if_neg c_3, if_pos c_4, if_neg c_7, if_pos c_8]) rfl dX7_may_104
    · refine lv_aload_n hx hb dX7_may_48 rfl (lv_at hl 0 rfl) ?_
      refine kr_get (C := "MonitorWaysModel") (T := TX7) (N := 27) hx hb hts hin_X7 hown hK hP 0 (by decide) (R_0 _ _ _ _) rfl 9 (by decide) lk_f35 (fun _ h9 => h9) rfl dX7_may_49 ?_
      refine lv_iload_n hx hb dX7_may_52 rfl (lv_at hl 1 rfl) ?_
      refine kr_zaldN hx hb hK hP 9 1 (by decide) (R_9 _ _ _ _) rfl (j := t) (by omega) (by decide) dX7_may_53 ?_
      refine lv_goto (tgt := 104) hx hb dX7_may_54 (by decide) ?_
      exact kr_zret hx hb hr hlocks hK hP hD hS hR.2.2.2.2.2.2.2 (by unfold r_oMay; rw [if_neg c_1, if_pos c_2, if_pos c_3]) rfl dX7_may_104
  by_cases c_9 : iv 5 t = 2
  · refine lv_tableIn (tgt := 105) (off := 99) hx hb dX7_may_6 (by rw [c_9]; decide) (by rw [c_9]; decide) (by rw [c_9]; decide) (by decide) ?_
    refine lv_iload_n hx hb dX7_may_105 rfl (lv_at hl 2 rfl) ?_
    refine lv_if_ne (tgt := 126) hx hb dX7_may_106 (by decide) (fun c_10 => ?_) (fun c_10 => ?_)
    · refine lv_iconst (v := 0) hx hb dX7_may_126 (by decide) ?_
      exact kr_zret hx hb hr hlocks hK hP hD hS (by decide) (by unfold r_oMay; rw [if_neg c_1, if_neg c_2, if_pos c_9, if_neg c_10]) rfl dX7_may_127
    · refine lv_aload_n hx hb dX7_may_109 rfl (lv_at hl 0 rfl) ?_
      refine kr_get (C := "MonitorWaysModel") (T := TX7) (N := 27) hx hb hts hin_X7 hown hK hP 0 (by decide) (R_0 _ _ _ _) rfl 12 (by decide) lk_f45 (fun _ h9 => h9) rfl dX7_may_110 ?_
      refine lv_aload_n hx hb dX7_may_113 rfl (lv_at hl 0 rfl) ?_
      refine lv_iload_n hx hb dX7_may_114 rfl (lv_at hl 1 rfl) ?_
      refine kr_callVi (As := [.int (nI t)]) (rest := [.ref (ad 12)]) ⟨hx, hb, hml, hown, hts⟩ (c_oWaited l D gc ad ln iv lv t (by omega) p hR.1 (hR.2.2.2.1 (Or.inr (Or.inl c_9))) hR.2.1) (cwV 1 hts (goodV (fun _ h => tcons h) tw_699 tw_701 ts_35 tw_8 tw_702) rfl rfl rfl (by decide +kernel) ⟨Nat.le_of_ble_eq_true rfl, Nat.le_of_ble_eq_true rfl⟩) (kr_recv hK hP 0 (by decide) (R_0 _ _ _ _) rfl) hK hP hD hS hA rfl hl.1 rfl (Nat.le_of_ble_eq_true rfl) dX7_may_115 ⟨Nat.le_of_ble_eq_true rfl, Nat.le_of_ble_eq_true rfl⟩ (fun H locs hP hD hS => ?_)
      refine kr_topi (y := nI mm) (hR.2.2.2.2.2.2.1 (Or.inr c_9)) ?_
      refine kr_ialdN hx hb hK hP 12 0 (by decide) (R_12 _ _ _ _) rfl (j := mm) (by omega) (by decide) dX7_may_118 ?_
      refine kr_tern (M := 127) (cnd := 0 ≤ iv 12 mm) (a := 0) (b := 1) (rest := []) (fun ja jb => ?_) ?_
      · refine lv_if_ge (tgt := 126) hx hb dX7_may_119 (by decide) (fun c_11 => ?_) (fun c_11 => ?_)
        · refine lv_iconst (v := 0) hx hb dX7_may_126 (by decide) ?_
          exact ja c_11
        · refine lv_iconst (v := 1) hx hb dX7_may_122 (by decide) ?_
          refine lv_goto (tgt := 127) hx hb dX7_may_123 (by decide) ?_
          exact jb c_11
      exact kr_zret hx hb hr hlocks hK hP hD hS (nb_ite (by decide) (by decide)) (by unfold r_oMay; rw [if_neg c_1, if_neg c_2, if_pos c_9, if_pos c_10]) rfl dX7_may_127
  by_cases c_12 : iv 5 t = 3
  · refine lv_tableIn (tgt := 128) (off := 122) hx hb dX7_may_6 (by rw [c_12]; decide) (by rw [c_12]; decide) (by rw [c_12]; decide) (by decide) ?_
    refine lv_iload_n hx hb dX7_may_128 rfl (lv_at hl 2 rfl) ?_
    refine lv_iconst (v := 1) hx hb dX7_may_129 (by decide) ?_
    refine lv_icmp_ne (tgt := 142) hx hb dX7_may_130 (by decide) (fun c_13 => ?_) (fun c_13 => ?_)
    · refine lv_iload_n hx hb dX7_may_142 rfl (lv_at hl 2 rfl) ?_
      refine lv_iconst (v := 3) hx hb dX7_may_143 (by decide) ?_
      refine lv_icmp_ne (tgt := 167) hx hb dX7_may_144 (by decide) (fun c_14 => ?_) (fun c_14 => ?_)
      · refine lv_iconst (v := 0) hx hb dX7_may_167 (by decide) ?_
        exact kr_zret hx hb hr hlocks hK hP hD hS (by decide) (by unfold r_oMay; rw [if_neg c_1, if_neg c_2, if_neg c_9, if_pos c_12, if_neg c_13, if_neg c_14]) rfl dX7_may_168
      · refine lv_aload_n hx hb dX7_may_147 rfl (lv_at hl 0 rfl) ?_
        refine kr_get (C := "MonitorWaysModel") (T := TX7) (N := 27) hx hb hts hin_X7 hown hK hP 0 (by decide) (R_0 _ _ _ _) rfl 0 (by decide) lk_f69 (fun _ h9 => h9) rfl dX7_may_148 ?_
        refine lv_if_eq (tgt := 167) hx hb dX7_may_151 (by decide) (fun c_15 => ?_) (fun c_15 => ?_)
        · refine lv_iconst (v := 0) hx hb dX7_may_167 (by decide) ?_
          exact kr_zret hx hb hr hlocks hK hP hD hS (by decide) (by unfold r_oMay; rw [if_neg c_1, if_neg c_2, if_neg c_9, if_pos c_12, if_neg c_13, if_pos c_14, if_pos c_15]) rfl dX7_may_168
        · refine lv_aload_n hx hb dX7_may_154 rfl (lv_at hl 0 rfl) ?_
          refine kr_get (C := "MonitorWaysModel") (T := TX7) (N := 27) hx hb hts hin_X7 hown hK hP 0 (by decide) (R_0 _ _ _ _) rfl 11 (by decide) lk_f42 (fun _ h9 => h9) rfl dX7_may_155 ?_
          refine lv_iload_n hx hb dX7_may_158 rfl (lv_at hl 1 rfl) ?_
          refine kr_zaldN hx hb hK hP 11 1 (by decide) (R_11 _ _ _ _) rfl (j := t) (by omega) (by decide) dX7_may_159 ?_
          refine kr_tern (M := 168) (cnd := iv 11 t = 0) (a := 1) (b := 0) (rest := []) (fun ja jb => ?_) ?_
          · refine lv_if_ne (tgt := 167) hx hb dX7_may_160 (by decide) (fun c_16 => ?_) (fun c_16 => ?_)
            · refine lv_iconst (v := 0) hx hb dX7_may_167 (by decide) ?_
              exact jb c_16
            · refine lv_iconst (v := 1) hx hb dX7_may_163 (by decide) ?_
              refine lv_goto (tgt := 168) hx hb dX7_may_164 (by decide) ?_
              exact ja c_16
          exact kr_zret hx hb hr hlocks hK hP hD hS (nb_ite (by decide) (by decide)) (by unfold r_oMay; rw [if_neg c_1, if_neg c_2, if_neg c_9, if_pos c_12, if_neg c_13, if_pos c_14, if_neg c_15]) rfl dX7_may_168
    · refine lv_aload_n hx hb dX7_may_133 rfl (lv_at hl 0 rfl) ?_
      refine kr_get (C := "MonitorWaysModel") (T := TX7) (N := 27) hx hb hts hin_X7 hown hK hP 0 (by decide) (R_0 _ _ _ _) rfl 9 (by decide) lk_f35 (fun _ h9 => h9) rfl dX7_may_134 ?_
      refine lv_iload_n hx hb dX7_may_137 rfl (lv_at hl 1 rfl) ?_
      refine kr_zaldN hx hb hK hP 9 1 (by decide) (R_9 _ _ _ _) rfl (j := t) (by omega) (by decide) dX7_may_138 ?_
      refine lv_goto (tgt := 168) hx hb dX7_may_139 (by decide) ?_
      exact kr_zret hx hb hr hlocks hK hP hD hS hR.2.2.2.2.2.2.2 (by unfold r_oMay; rw [if_neg c_1, if_neg c_2, if_neg c_9, if_pos c_12, if_pos c_13]) rfl dX7_may_168
  refine lv_tableOut (tgt := 169) hx hb dX7_may_6 (sw_0_3 c_1 c_2 c_9 c_12) (by decide) ?_
  refine lv_iconst (v := 0) hx hb dX7_may_169 (by decide) ?_
  exact kr_zret hx hb hr hlocks hK hP hD hS (by decide) (by unfold r_oMay; rw [if_neg c_1, if_neg c_2, if_neg c_9, if_neg c_12]) rfl dX7_may_170
