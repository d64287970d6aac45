def r_oReset (iv : Nat → Nat → Int32) : Int32 := iv 0 17
def n_oReset (iv : Nat → Nat → Int32) (lv : Nat → Nat → Int64) : Nat → Nat → Int64 := (n_oPack (m_oFirst (up2 iv 0 17 0) ) (n_oFirst (up2 iv 0 17 0) lv ) 16 0)
def m_oReset (iv : Nat → Nat → Int32) : Nat → Nat → Int32 := (m_oFirst (up2 iv 0 17 0) )
set_option maxHeartbeats 4000000 in
set_option maxRecDepth 100000 in
theorem c_oReset (l : Launch) (D : va_G) (gc : Nat → ClassId) (ad ln : Nat → Nat) (iv : Nat → Nat → Int32) (lv : Nat → Nat → Int64) : kMi l yX7_reset wX7_reset ({ frames := 2, cells := 0, slots := 0, locals := 49 }) D vwCl (kT gc) 20 (rE gc) [.ref (ad 0)] (ad, ln, iv, lv) (ad, ln, m_oReset iv, n_oReset iv lv) (r_oReset iv) := by
  refine ki_start (cc := cX7_reset) (maxL := 2) (ret := (some .int)) (by decide) rfl (Nat.le_of_ble_eq_true rfl) ?_
  intro p9 e9 s m9 below meth c9 A ls hx hb hr hts hown hlocks hml hA hK hP hD hS hl
  have hl : lv_has ls 2 [(0, .ref (ad 0))] := hl
  have hown : s.vm.findClass "MonitorWaysModel" = some m9.cls := hown
  have hin_X7 : ∀ w ∈ u_ws "MonitorWaysModel" TX7 27, w ∈ wX7_reset := fun w h => tcons (inX7 w h)
  have lk_f181 := hts _ (tcons tw_591)
  have lk_f57 := hts _ (tcons tw_590)
  refine lv_aload_n hx hb dX7_reset_0 rfl (lv_at hl 0 rfl) ?_
  refine kr_get (C := "MonitorWaysModel") (T := TX7) (N := 27) hx hb hts hin_X7 hown hK hP 0 (by decide) (R_0 _ _ _ _) rfl 17 (by decide) lk_f181 (fun _ h9 => h9) rfl dX7_reset_1 ?_
  refine lv_istore_n (lv' := [(1, .int (iv 0 17)), (0, .ref (ad 0))]) hx hb dX7_reset_4 rfl hl (by decide) rfl (fun ls hl => ?_)
  refine lv_aload_n hx hb dX7_reset_5 rfl (lv_at hl 1 rfl) ?_
  refine lv_iconst (v := 0) hx hb dX7_reset_6 (by decide) ?_
  refine kr_put (C := "MonitorWaysModel") (T := TX7) (N := 27) hx hb hts hin_X7 tyX7 ok_tyX7 ok_nX7 hown hK hP hD hS 0 (by decide) (fun _ => R_0 _ _ _ _) rfl 17 (by decide) lk_f181 (fun _ h9 => h9) rfl rfl rfl rfl (fun _ => Nat.le_of_ble_eq_true rfl) (fun _ => rfl) dX7_reset_7 (fun H locs hP hD hS => ?_)
  refine lv_aload_n hx hb dX7_reset_10 rfl (lv_at hl 1 rfl) ?_
  refine kr_callVv (As := []) (rest := []) ⟨hx, hb, hml, hown, hts⟩ (c_oFirst l D gc ad ln (up2 iv 0 17 0) lv ) (cwV 0 hts (goodV (fun _ h => tcons h) tw_560 tw_562 ts_24 tw_8 tw_563) rfl rfl rfl (by decide +kernel) ⟨Nat.le_of_ble_eq_true rfl, Nat.le_of_ble_eq_true rfl⟩) (kr_recv hK hP 0 (by decide) (R_0 _ _ _ _) rfl) hK hP hD hS hA rfl hl.1 rfl (Nat.le_of_ble_eq_true rfl) dX7_reset_11 ⟨Nat.le_of_ble_eq_true rfl, Nat.le_of_ble_eq_true rfl⟩ (fun H locs hP hD hS => ?_)
  refine lv_aload_n hx hb dX7_reset_14 rfl (lv_at hl 1 rfl) ?_
  refine lv_aload_n hx hb dX7_reset_15 rfl (lv_at hl 1 rfl) ?_
  refine kr_get (C := "MonitorWaysModel") (T := TX7) (N := 27) hx hb hts hin_X7 hown hK hP 0 (by decide) (R_0 _ _ _ _) rfl 16 (by decide) lk_f57 (fun _ h9 => h9) rfl dX7_reset_16 ?_
  refine lv_iconst (v := 0) hx hb dX7_reset_19 (by decide) ?_
  refine kr_callVv (As := [.ref (ad 16), .int 0]) (rest := []) ⟨hx, hb, hml, hown, hts⟩ (c_oPack l D gc ad ln (m_oFirst (up2 iv 0 17 0) ) (n_oFirst (up2 iv 0 17 0) lv ) 16 0 (Or.inl rfl) (by decide)) (cwV 2 hts (goodV (fun _ h => tcons h) tw_564 tw_566 ts_25 tw_8 tw_567) rfl rfl rfl (by decide +kernel) ⟨Nat.le_of_ble_eq_true rfl, Nat.le_of_ble_eq_true rfl⟩) (kr_recv hK hP 0 (by decide) (R_0 _ _ _ _) rfl) hK hP hD hS hA rfl hl.1 rfl (Nat.le_of_ble_eq_true rfl) dX7_reset_20 ⟨Nat.le_of_ble_eq_true rfl, Nat.le_of_ble_eq_true rfl⟩ (fun H locs hP hD hS => ?_)
  refine lv_iload_n hx hb dX7_reset_23 rfl (lv_at hl 0 rfl) ?_
  exact kr_iret hx hb hr hlocks hK hP hD hS rfl (mem4 rfl rfl) dX7_reset_24
def r_oState (iv : Nat → Nat → Int32) (lv : Nat → Nat → Int64) (tt : Int32) (t : Nat) : Int32 := if (r_oOut iv tt 4) = 0 then ((((m_oUnp iv lv 16 0) 5 t) + (if (m_oUnp iv lv 16 0) 9 t = 0 then (0 : Int32) else 8)) + (if (m_oUnp iv lv 16 0) 10 t = 0 then (0 : Int32) else 16)) else (-1)
def n_oState (iv : Nat → Nat → Int32) (lv : Nat → Nat → Int64) (tt : Int32) (t : Nat) : Nat → Nat → Int64 := if (r_oOut iv tt 4) = 0 then (n_oUnp iv lv 16 0) else lv
def m_oState (iv : Nat → Nat → Int32) (lv : Nat → Nat → Int64) (tt : Int32) (t : Nat) : Nat → Nat → Int32 := if (r_oOut iv tt 4) = 0 then (m_oUnp iv lv 16 0) else iv
set_option maxHeartbeats 4000000 in
set_option maxRecDepth 100000 in
theorem c_oState (l : Launch) (D : va_G) (gc : Nat → ClassId) (ad ln : Nat → Nat) (iv : Nat → Nat → Int32) (lv : Nat → Nat → Int64) (tt : Int32) (t : Nat) (ht : r_oOut iv tt 4 = 0 → t < 4 ∧ tt = nI t) : kMi l yX7_state wX7_state ({ frames := 2, cells := 0, slots := 0, locals := 51 }) D vwCl (kT gc) 20 (rE gc) [.ref (ad 0), .int tt] (ad, ln, iv, lv) (ad, ln, m_oState iv lv tt t, n_oState iv lv tt t) (r_oState iv lv tt t) := by
  refine ki_start (cc := cX7_state) (maxL := 2) (ret := (some .int)) (by decide) rfl (Nat.le_of_ble_eq_true rfl) ?_
  intro p9 e9 s m9 below meth c9 A ls hx hb hr hts hown hlocks hml hA hK hP hD hS hl
  have hl : lv_has ls 2 [(0, .ref (ad 0)), (1, .int tt)] := hl
  have hown : s.vm.findClass "MonitorWaysModel" = some m9.cls := hown
  have hin_X7 : ∀ w ∈ u_ws "MonitorWaysModel" TX7 27, w ∈ wX7_state := fun w h => tcons (inX7 w h)
  have lk_f57 := hts _ (tcons tw_590)
  have lk_f22 := hts _ (tcons tw_579)
  have lk_f35 := hts _ (tcons tw_583)
  have lk_f39 := hts _ (tcons tw_584)
  refine lv_iload_n hx hb dX7_state_0 rfl (lv_at hl 1 rfl) ?_
  refine lv_iconst (v := 4) hx hb dX7_state_1 (by decide) ?_
  refine kr_callSi (As := [.int tt, .int 4]) (rest := []) ⟨hx, hb, hml, hown, hts⟩ (c_oOut l D gc ad ln iv lv tt 4) (cwS 2 hts (goodS (fun _ h => tcons h) tw_659 tw_660 tw_8 tw_661) rfl rfl rfl (by decide +kernel) ⟨Nat.le_of_ble_eq_true rfl, Nat.le_of_ble_eq_true rfl⟩) hK hP hD hS hA rfl hl.1 rfl (Nat.le_of_ble_eq_true rfl) dX7_state_2 ⟨Nat.le_of_ble_eq_true rfl, Nat.le_of_ble_eq_true rfl⟩ (fun H locs hP hD hS => ?_)
  refine lv_if_eq (tgt := 10) hx hb dX7_state_5 (by decide) (fun c_1 => ?_) (fun c_1 => ?_)
  · obtain ⟨ht4, htt⟩ := ht c_1
    refine lv_aload_n hx hb dX7_state_10 rfl (lv_at hl 0 rfl) ?_
    refine lv_aload_n hx hb dX7_state_11 rfl (lv_at hl 0 rfl) ?_
    refine kr_get (C := "MonitorWaysModel") (T := TX7) (N := 27) hx hb hts hin_X7 hown hK hP 0 (by decide) (R_0 _ _ _ _) rfl 16 (by decide) lk_f57 (fun _ h9 => h9) rfl dX7_state_12 ?_
    refine lv_iconst (v := 0) hx hb dX7_state_15 (by decide) ?_
    refine kr_callVv (As := [.ref (ad 16), .int 0]) (rest := []) ⟨hx, hb, hml, hown, hts⟩ (c_oUnp l D gc ad ln iv lv 16 0 (Or.inl rfl) (by decide)) (cwV 2 hts (goodV (fun _ h => tcons h) tw_670 tw_672 ts_28 tw_8 tw_673) rfl rfl rfl (by decide +kernel) ⟨Nat.le_of_ble_eq_true rfl, Nat.le_of_ble_eq_true rfl⟩) (kr_recv hK hP 0 (by decide) (R_0 _ _ _ _) rfl) hK hP hD hS hA rfl hl.1 rfl (Nat.le_of_ble_eq_true rfl) dX7_state_16 ⟨Nat.le_of_ble_eq_true rfl, Nat.le_of_ble_eq_true rfl⟩ (fun H locs hP hD hS => ?_)
    refine lv_aload_n hx hb dX7_state_19 rfl (lv_at hl 0 rfl) ?_
    refine kr_get (C := "MonitorWaysModel") (T := TX7) (N := 27) hx hb hts hin_X7 hown hK hP 0 (by decide) (R_0 _ _ _ _) rfl 5 (by decide) lk_f22 (fun _ h9 => h9) rfl dX7_state_20 ?_
    refine lv_iload_n hx hb dX7_state_23 rfl (lv_at hl 1 rfl) ?_
    refine kr_topi (y := nI t) htt ?_
    refine kr_ialdN hx hb hK hP 5 0 (by decide) (R_5 _ _ _ _) rfl (j := t) (by omega) (by decide) dX7_state_24 ?_
    refine lv_aload_n hx hb dX7_state_25 rfl (lv_at hl 0 rfl) ?_
    refine kr_get (C := "MonitorWaysModel") (T := TX7) (N := 27) hx hb hts hin_X7 hown hK hP 0 (by decide) (R_0 _ _ _ _) rfl 9 (by decide) lk_f35 (fun _ h9 => h9) rfl dX7_state_26 ?_
    refine lv_iload_n hx hb dX7_state_29 rfl (lv_at hl 1 rfl) ?_
    refine kr_topi (y := nI t) htt ?_
    refine kr_zaldN hx hb hK hP 9 1 (by decide) (R_9 _ _ _ _) rfl (j := t) (by omega) (by decide) dX7_state_30 ?_
    refine kr_tern (M := 40) (cnd := (m_oUnp iv lv 16 0) 9 t = 0) (a := 0) (b := 8) (rest := [.int ((m_oUnp iv lv 16 0) 5 t)]) (fun ja jb => ?_) ?_
    · refine lv_if_eq (tgt := 39) hx hb dX7_state_31 (by decide) (fun c_2 => ?_) (fun c_2 => ?_)
      · refine lv_iconst (v := 0) hx hb dX7_state_39 (by decide) ?_
        exact ja c_2
      · refine lv_bipush (v := 8) hx hb dX7_state_34 (by decide) ?_
        refine lv_goto (tgt := 40) hx hb dX7_state_36 (by decide) ?_
        exact jb c_2
    refine lv_iadd hx hb dX7_state_40 ?_
    refine lv_aload_n hx hb dX7_state_41 rfl (lv_at hl 0 rfl) ?_
    refine kr_get (C := "MonitorWaysModel") (T := TX7) (N := 27) hx hb hts hin_X7 hown hK hP 0 (by decide) (R_0 _ _ _ _) rfl 10 (by decide) lk_f39 (fun _ h9 => h9) rfl dX7_state_42 ?_
    refine lv_iload_n hx hb dX7_state_45 rfl (lv_at hl 1 rfl) ?_
    refine kr_topi (y := nI t) htt ?_
    refine kr_zaldN hx hb hK hP 10 1 (by decide) (R_10 _ _ _ _) rfl (j := t) (by omega) (by decide) dX7_state_46 ?_
    refine kr_tern (M := 56) (cnd := (m_oUnp iv lv 16 0) 10 t = 0) (a := 0) (b := 16) (rest := [.int (((m_oUnp iv lv 16 0) 5 t) + (if (m_oUnp iv lv 16 0) 9 t = 0 then (0 : Int32) else 8))]) (fun ja jb => ?_) ?_
    · refine lv_if_eq (tgt := 55) hx hb dX7_state_47 (by decide) (fun c_3 => ?_) (fun c_3 => ?_)
      · refine lv_iconst (v := 0) hx hb dX7_state_55 (by decide) ?_
        exact ja c_3
      · refine lv_bipush (v := 16) hx hb dX7_state_50 (by decide) ?_
        refine lv_goto (tgt := 56) hx hb dX7_state_52 (by decide) ?_
        exact jb c_3
    refine lv_iadd hx hb dX7_state_56 ?_
    exact kr_iret hx hb hr hlocks hK hP hD hS (by unfold r_oState; rw [if_pos c_1]) (mem4 (by unfold m_oState; first | (rw [if_pos c_1]; done) | simp only [if_pos c_1]) (by unfold n_oState; first | (rw [if_pos c_1]; done) | simp only [if_pos c_1])) dX7_state_57
  · refine lv_iconst (v := (-1)) hx hb dX7_state_8 (by decide) ?_
    exact kr_iret hx hb hr hlocks hK hP hD hS (by unfold r_oState; rw [if_neg c_1]) (mem4 (by unfold m_oState; first | (rw [if_neg c_1]; done) | simp only [if_neg c_1]) (by unfold n_oState; first | (rw [if_neg c_1]; done) | simp only [if_neg c_1])) dX7_state_9
def r_oOwner (iv : Nat → Nat → Int32) (lv : Nat → Nat → Int64) (k : Int32) (mm : Nat) : Int32 := if (r_oOut (m_oUnp iv lv 16 0) k 2) = 0 then (m_oUnp iv lv 16 0) 12 mm else (-1)
def n_oOwner (iv : Nat → Nat → Int32) (lv : Nat → Nat → Int64) (k : Int32) (mm : Nat) : Nat → Nat → Int64 := if (r_oOut (m_oUnp iv lv 16 0) k 2) = 0 then (n_oUnp iv lv 16 0) else (n_oUnp iv lv 16 0)
def m_oOwner (iv : Nat → Nat → Int32) (lv : Nat → Nat → Int64) (k : Int32) (mm : Nat) : Nat → Nat → Int32 := if (r_oOut (m_oUnp iv lv 16 0) k 2) = 0 then (m_oUnp iv lv 16 0) else (m_oUnp iv lv 16 0)
set_option maxHeartbeats 4000000 in
set_option maxRecDepth 100000 in
theorem c_oOwner (l : Launch) (D : va_G) (gc : Nat → ClassId) (ad ln : Nat → Nat) (iv : Nat → Nat → Int32) (lv : Nat → Nat → Int64) (k : Int32) (mm : Nat) (hm : r_oOut iv k 2 = 0 → mm < 2 ∧ k = nI mm) : kMi l yX7_owner wX7_owner ({ frames := 2, cells := 0, slots := 0, locals := 51 }) D vwCl (kT gc) 20 (rE gc) [.ref (ad 0), .int k] (ad, ln, iv, lv) (ad, ln, m_oOwner iv lv k mm, n_oOwner iv lv k mm) (r_oOwner iv lv k mm) := by
  refine ki_start (cc := cX7_owner) (maxL := 2) (ret := (some .int)) (by decide) rfl (Nat.le_of_ble_eq_true rfl) ?_
  intro p9 e9 s m9 below meth c9 A ls hx hb hr hts hown hlocks hml hA hK hP hD hS hl
  have hl : lv_has ls 2 [(0, .ref (ad 0)), (1, .int k)] := hl
  have hown : s.vm.findClass "MonitorWaysModel" = some m9.cls := hown
  have hin_X7 : ∀ w ∈ u_ws "MonitorWaysModel" TX7 27, w ∈ wX7_owner := fun w h => tcons (inX7 w h)
  have lk_f57 := hts _ (tcons tw_590)
  have lk_f45 := hts _ (tcons tw_586)
  refine lv_aload_n hx hb dX7_owner_0 rfl (lv_at hl 0 rfl) ?_
  refine lv_aload_n hx hb dX7_owner_1 rfl (lv_at hl 0 rfl) ?_
  refine kr_get (C := "MonitorWaysModel") (T := TX7) (N := 27) hx hb hts hin_X7 hown hK hP 0 (by decide) (R_0 _ _ _ _) rfl 16 (by decide) lk_f57 (fun _ h9 => h9) rfl dX7_owner_2 ?_
  refine lv_iconst (v := 0) hx hb dX7_owner_5 (by decide) ?_
  refine kr_callVv (As := [.ref (ad 16), .int 0]) (rest := []) ⟨hx, hb, hml, hown, hts⟩ (c_oUnp l D gc ad ln iv lv 16 0 (Or.inl rfl) (by decide)) (cwV 2 hts (goodV (fun _ h => tcons h) tw_670 tw_672 ts_28 tw_8 tw_673) rfl rfl rfl (by decide +kernel) ⟨Nat.le_of_ble_eq_true rfl, Nat.le_of_ble_eq_true rfl⟩) (kr_recv hK hP 0 (by decide) (R_0 _ _ _ _) rfl) hK hP hD hS hA rfl hl.1 rfl (Nat.le_of_ble_eq_true rfl) dX7_owner_6 ⟨Nat.le_of_ble_eq_true rfl, Nat.le_of_ble_eq_true rfl⟩ (fun H locs hP hD hS => ?_)
  refine lv_iload_n hx hb dX7_owner_9 rfl (lv_at hl 1 rfl) ?_
  refine lv_iconst (v := 2) hx hb dX7_owner_10 (by decide) ?_
  refine kr_callSi (As := [.int k, .int 2]) (rest := []) ⟨hx, hb, hml, hown, hts⟩ (c_oOut l D gc ad ln (m_oUnp iv lv 16 0) (n_oUnp iv lv 16 0) k 2) (cwS 2 hts (goodS (fun _ h => tcons h) tw_659 tw_660 tw_8 tw_661) rfl rfl rfl (by decide +kernel) ⟨Nat.le_of_ble_eq_true rfl, Nat.le_of_ble_eq_true rfl⟩) hK hP hD hS hA rfl hl.1 rfl (Nat.le_of_ble_eq_true rfl) dX7_owner_11 ⟨Nat.le_of_ble_eq_true rfl, Nat.le_of_ble_eq_true rfl⟩ (fun H locs hP hD hS => ?_)
  refine lv_if_eq (tgt := 21) hx hb dX7_owner_14 (by decide) (fun c_1 => ?_) (fun c_1 => ?_)
  · obtain ⟨hm2, hmk⟩ := hm c_1
    refine lv_aload_n hx hb dX7_owner_21 rfl (lv_at hl 0 rfl) ?_
    refine kr_get (C := "MonitorWaysModel") (T := TX7) (N := 27) hx hb hts hin_X7 hown hK hP 0 (by decide) (R_0 _ _ _ _) rfl 12 (by decide) lk_f45 (fun _ h9 => h9) rfl dX7_owner_22 ?_
    refine lv_iload_n hx hb dX7_owner_25 rfl (lv_at hl 1 rfl) ?_
    refine kr_topi (y := nI mm) hmk ?_
    refine kr_ialdN hx hb hK hP 12 0 (by decide) (R_12 _ _ _ _) rfl (j := mm) (by omega) (by decide) dX7_owner_26 ?_
    exact kr_iret hx hb hr hlocks hK hP hD hS (by unfold r_oOwner; rw [if_pos c_1]) (mem4 (by unfold m_oOwner; first | (rw [if_pos c_1]; done) | simp only [if_pos c_1]) (by unfold n_oOwner; first | (rw [if_pos c_1]; done) | simp only [if_pos c_1])) dX7_owner_27
  · refine lv_iconst (v := (-1)) hx hb dX7_owner_17 (by decide) ?_
    refine lv_goto (tgt := 27) hx hb dX7_owner_18 (by decide) ?_
    exact kr_iret hx hb hr hlocks hK hP hD hS (by unfold r_oOwner; rw [if_neg c_1]) (mem4 (by unfold m_oOwner; first | (rw [if_neg c_1]; done) | simp only [if_neg c_1]) (by unfold n_oOwner; first | (rw [if_neg c_1]; done) | simp only [if_neg c_1])) dX7_owner_27
def r_oHeld (iv : Nat → Nat → Int32) (lv : Nat → Nat → Int64) (k : Int32) (mm : Nat) : Int32 := if (r_oOut (m_oUnp iv lv 16 0) k 2) = 0 then (m_oUnp iv lv 16 0) 13 mm else 0
def n_oHeld (iv : Nat → Nat → Int32) (lv : Nat → Nat → Int64) (k : Int32) (mm : Nat) : Nat → Nat → Int64 := if (r_oOut (m_oUnp iv lv 16 0) k 2) = 0 then (n_oUnp iv lv 16 0) else (n_oUnp iv lv 16 0)
def m_oHeld (iv : Nat → Nat → Int32) (lv : Nat → Nat → Int64) (k : Int32) (mm : Nat) : Nat → Nat → Int32 := if (r_oOut (m_oUnp iv lv 16 0) k 2) = 0 then (m_oUnp iv lv 16 0) else (m_oUnp iv lv 16 0)
set_option maxHeartbeats 4000000 in
set_option maxRecDepth 100000 in
theorem c_oHeld (l : Launch) (D : va_G) (gc : Nat → ClassId) (ad ln : Nat → Nat) (iv : Nat → Nat → Int32) (lv : Nat → Nat → Int64) (k : Int32) (mm : Nat) (hm : r_oOut iv k 2 = 0 → mm < 2 ∧ k = nI mm) : kMi l yX7_held wX7_held ({ frames := 2, cells := 0, slots := 0, locals := 51 }) D vwCl (kT gc) 20 (rE gc) [.ref (ad 0), .int k] (ad, ln, iv, lv) (ad, ln, m_oHeld iv lv k mm, n_oHeld iv lv k mm) (r_oHeld iv lv k mm) := by
  refine ki_start (cc := cX7_held) (maxL := 2) (ret := (some .int)) (by decide) rfl (Nat.le_of_ble_eq_true rfl) ?_
  intro p9 e9 s m9 below meth c9 A ls hx hb hr hts hown hlocks hml hA hK hP hD hS hl
  have hl : lv_has ls 2 [(0, .ref (ad 0)), (1, .int k)] := hl
  have hown : s.vm.findClass "MonitorWaysModel" = some m9.cls := hown
  have hin_X7 : ∀ w ∈ u_ws "MonitorWaysModel" TX7 27, w ∈ wX7_held := fun w h => tcons (inX7 w h)
  have lk_f57 := hts _ (tcons tw_590)
  have lk_f48 := hts _ (tcons tw_587)
  refine lv_aload_n hx hb dX7_held_0 rfl (lv_at hl 0 rfl) ?_
  refine lv_aload_n hx hb dX7_held_1 rfl (lv_at hl 0 rfl) ?_
  refine kr_get (C := "MonitorWaysModel") (T := TX7) (N := 27) hx hb hts hin_X7 hown hK hP 0 (by decide) (R_0 _ _ _ _) rfl 16 (by decide) lk_f57 (fun _ h9 => h9) rfl dX7_held_2 ?_
  refine lv_iconst (v := 0) hx hb dX7_held_5 (by decide) ?_
  refine kr_callVv (As := [.ref (ad 16), .int 0]) (rest := []) ⟨hx, hb, hml, hown, hts⟩ (c_oUnp l D gc ad ln iv lv 16 0 (Or.inl rfl) (by decide)) (cwV 2 hts (goodV (fun _ h => tcons h) tw_670 tw_672 ts_28 tw_8 tw_673) rfl rfl rfl (by decide +kernel) ⟨Nat.le_of_ble_eq_true rfl, Nat.le_of_ble_eq_true rfl⟩) (kr_recv hK hP 0 (by decide) (R_0 _ _ _ _) rfl) hK hP hD hS hA rfl hl.1 rfl (Nat.le_of_ble_eq_true rfl) dX7_held_6 ⟨Nat.le_of_ble_eq_true rfl, Nat.le_of_ble_eq_true rfl⟩ (fun H locs hP hD hS => ?_)
  refine lv_iload_n hx hb dX7_held_9 rfl (lv_at hl 1 rfl) ?_
  refine lv_iconst (v := 2) hx hb dX7_held_10 (by decide) ?_
  refine kr_callSi (As := [.int k, .int 2]) (rest := []) ⟨hx, hb, hml, hown, hts⟩ (c_oOut l D gc ad ln (m_oUnp iv lv 16 0) (n_oUnp iv lv 16 0) k 2) (cwS 2 hts (goodS (fun _ h => tcons h) tw_659 tw_660 tw_8 tw_661) rfl rfl rfl (by decide +kernel) ⟨Nat.le_of_ble_eq_true rfl, Nat.le_of_ble_eq_true rfl⟩) hK hP hD hS hA rfl hl.1 rfl (Nat.le_of_ble_eq_true rfl) dX7_held_11 ⟨Nat.le_of_ble_eq_true rfl, Nat.le_of_ble_eq_true rfl⟩ (fun H locs hP hD hS => ?_)
  refine lv_if_eq (tgt := 21) hx hb dX7_held_14 (by decide) (fun c_1 => ?_) (fun c_1 => ?_)
  · obtain ⟨hm2, hmk⟩ := hm c_1
    refine lv_aload_n hx hb dX7_held_21 rfl (lv_at hl 0 rfl) ?_
    refine kr_get (C := "MonitorWaysModel") (T := TX7) (N := 27) hx hb hts hin_X7 hown hK hP 0 (by decide) (R_0 _ _ _ _) rfl 13 (by decide) lk_f48 (fun _ h9 => h9) rfl dX7_held_22 ?_
    refine lv_iload_n hx hb dX7_held_25 rfl (lv_at hl 1 rfl) ?_
    refine kr_topi (y := nI mm) hmk ?_
    refine kr_ialdN hx hb hK hP 13 0 (by decide) (R_13 _ _ _ _) rfl (j := mm) (by omega) (by decide) dX7_held_26 ?_
    exact kr_iret hx hb hr hlocks hK hP hD hS (by unfold r_oHeld; rw [if_pos c_1]) (mem4 (by unfold m_oHeld; first | (rw [if_pos c_1]; done) | simp only [if_pos c_1]) (by unfold n_oHeld; first | (rw [if_pos c_1]; done) | simp only [if_pos c_1])) dX7_held_27
  · refine lv_iconst (v := 0) hx hb dX7_held_17 (by decide) ?_
    refine lv_goto (tgt := 27) hx hb dX7_held_18 (by decide) ?_
    exact kr_iret hx hb hr hlocks hK hP hD hS (by unfold r_oHeld; rw [if_neg c_1]) (mem4 (by unfold m_oHeld; first | (rw [if_neg c_1]; done) | simp only [if_neg c_1]) (by unfold n_oHeld; first | (rw [if_neg c_1]; done) | simp only [if_neg c_1])) dX7_held_27
def r_oInSet (iv : Nat → Nat → Int32) (lv : Nat → Nat → Int64) (k : Int32) (mm : Nat) (x : Int32) (kx : Nat) : Int32 := if (r_oOut (m_oUnp iv lv 16 0) k 2) = 0 then if (r_oOut (m_oUnp iv lv 16 0) x ((m_oUnp iv lv 16 0) 14 mm)) = 0 then (m_oUnp iv lv 16 0) 15 ((4 * mm) + kx) else (-1) else (-1)
def n_oInSet (iv : Nat → Nat → Int32) (lv : Nat → Nat → Int64) (k : Int32) (mm : Nat) (x : Int32) (kx : Nat) : Nat → Nat → Int64 := if (r_oOut (m_oUnp iv lv 16 0) k 2) = 0 then if (r_oOut (m_oUnp iv lv 16 0) x ((m_oUnp iv lv 16 0) 14 mm)) = 0 then (n_oUnp iv lv 16 0) else (n_oUnp iv lv 16 0) else (n_oUnp iv lv 16 0)
def m_oInSet (iv : Nat → Nat → Int32) (lv : Nat → Nat → Int64) (k : Int32) (mm : Nat) (x : Int32) (kx : Nat) : Nat → Nat → Int32 := if (r_oOut (m_oUnp iv lv 16 0) k 2) = 0 then if (r_oOut (m_oUnp iv lv 16 0) x ((m_oUnp iv lv 16 0) 14 mm)) = 0 then (m_oUnp iv lv 16 0) else (m_oUnp iv lv 16 0) else (m_oUnp iv lv 16 0)
set_option maxHeartbeats 4000000 in
set_option maxRecDepth 100000 in
theorem c_oInSet (l : Launch) (D : va_G) (gc : Nat → ClassId) (ad ln : Nat → Nat) (iv : Nat → Nat → Int32) (lv : Nat → Nat → Int64) (k : Int32) (mm : Nat) (hm : r_oOut iv k 2 = 0 → mm < 2 ∧ k = nI mm) (x : Int32) (kx : Nat) (hkx : mm < 2 → r_oOut iv x ((m_oUnp iv lv 16 0) 14 mm) = 0 → kx < 4 ∧ x = nI kx) : kMi l yX7_inSet wX7_inSet ({ frames := 2, cells := 0, slots := 0, locals := 51 }) D vwCl (kT gc) 20 (rE gc) [.ref (ad 0), .int k, .int x] (ad, ln, iv, lv) (ad, ln, m_oInSet iv lv k mm x kx, n_oInSet iv lv k mm x kx) (r_oInSet iv lv k mm x kx) := by
  refine ki_start (cc := cX7_inSet) (maxL := 3) (ret := (some .int)) (by decide) rfl (Nat.le_of_ble_eq_true rfl) ?_
  intro p9 e9 s m9 below meth c9 A ls hx hb hr hts hown hlocks hml hA hK hP hD hS hl
  have hl : lv_has ls 3 [(0, .ref (ad 0)), (1, .int k), (2, .int x)] := hl
  have hown : s.vm.findClass "MonitorWaysModel" = some m9.cls := hown
  have hin_X7 : ∀ w ∈ u_ws "MonitorWaysModel" TX7 27, w ∈ wX7_inSet := fun w h => tcons (inX7 w h)
  have lk_f57 := hts _ (tcons tw_590)
  have lk_f51 := hts _ (tcons tw_588)
  have lk_f54 := hts _ (tcons tw_589)
  refine lv_aload_n hx hb dX7_inSet_0 rfl (lv_at hl 0 rfl) ?_
  refine lv_aload_n hx hb dX7_inSet_1 rfl (lv_at hl 0 rfl) ?_
  refine kr_get (C := "MonitorWaysModel") (T := TX7) (N := 27) hx hb hts hin_X7 hown hK hP 0 (by decide) (R_0 _ _ _ _) rfl 16 (by decide) lk_f57 (fun _ h9 => h9) rfl dX7_inSet_2 ?_
  refine lv_iconst (v := 0) hx hb dX7_inSet_5 (by decide) ?_
  refine kr_callVv (As := [.ref (ad 16), .int 0]) (rest := []) ⟨hx, hb, hml, hown, hts⟩ (c_oUnp l D gc ad ln iv lv 16 0 (Or.inl rfl) (by decide)) (cwV 2 hts (goodV (fun _ h => tcons h) tw_670 tw_672 ts_28 tw_8 tw_673) rfl rfl rfl (by decide +kernel) ⟨Nat.le_of_ble_eq_true rfl, Nat.le_of_ble_eq_true rfl⟩) (kr_recv hK hP 0 (by decide) (R_0 _ _ _ _) rfl) hK hP hD hS hA rfl hl.1 rfl (Nat.le_of_ble_eq_true rfl) dX7_inSet_6 ⟨Nat.le_of_ble_eq_true rfl, Nat.le_of_ble_eq_true rfl⟩ (fun H locs hP hD hS => ?_)
  refine lv_iload_n hx hb dX7_inSet_9 rfl (lv_at hl 1 rfl) ?_
  refine lv_iconst (v := 2) hx hb dX7_inSet_10 (by decide) ?_
  refine kr_callSi (As := [.int k, .int 2]) (rest := []) ⟨hx, hb, hml, hown, hts⟩ (c_oOut l D gc ad ln (m_oUnp iv lv 16 0) (n_oUnp iv lv 16 0) k 2) (cwS 2 hts (goodS (fun _ h => tcons h) tw_659 tw_660 tw_8 tw_661) rfl rfl rfl (by decide +kernel) ⟨Nat.le_of_ble_eq_true rfl, Nat.le_of_ble_eq_true rfl⟩) hK hP hD hS hA rfl hl.1 rfl (Nat.le_of_ble_eq_true rfl) dX7_inSet_11 ⟨Nat.le_of_ble_eq_true rfl, Nat.le_of_ble_eq_true rfl⟩ (fun H locs hP hD hS => ?_)
  refine lv_if_ne (tgt := 30) hx hb dX7_inSet_14 (by decide) (fun c_1 => ?_) (fun c_1 => ?_)
  · refine lv_iconst (v := (-1)) hx hb dX7_inSet_30 (by decide) ?_
    refine lv_goto (tgt := 44) hx hb dX7_inSet_31 (by decide) ?_
    exact kr_iret hx hb hr hlocks hK hP hD hS (by unfold r_oInSet; rw [if_neg c_1]) (mem4 (by unfold m_oInSet; first | (rw [if_neg c_1]; done) | simp only [if_neg c_1]) (by unfold n_oInSet; first | (rw [if_neg c_1]; done) | simp only [if_neg c_1])) dX7_inSet_44
  · obtain ⟨hm2, hmk⟩ := hm c_1
    refine lv_iload_n hx hb dX7_inSet_17 rfl (lv_at hl 2 rfl) ?_
    refine lv_aload_n hx hb dX7_inSet_18 rfl (lv_at hl 0 rfl) ?_
    refine kr_get (C := "MonitorWaysModel") (T := TX7) (N := 27) hx hb hts hin_X7 hown hK hP 0 (by decide) (R_0 _ _ _ _) rfl 14 (by decide) lk_f51 (fun _ h9 => h9) rfl dX7_inSet_19 ?_
    refine lv_iload_n hx hb dX7_inSet_22 rfl (lv_at hl 1 rfl) ?_
    refine kr_topi (y := nI mm) hmk ?_
    refine kr_ialdN hx hb hK hP 14 0 (by decide) (R_14 _ _ _ _) rfl (j := mm) (by omega) (by decide) dX7_inSet_23 ?_
    refine kr_callSi (As := [.int x, .int ((m_oUnp iv lv 16 0) 14 mm)]) (rest := []) ⟨hx, hb, hml, hown, hts⟩ (c_oOut l D gc ad ln (m_oUnp iv lv 16 0) (n_oUnp iv lv 16 0) x ((m_oUnp iv lv 16 0) 14 mm)) (cwS 2 hts (goodS (fun _ h => tcons h) tw_659 tw_660 tw_8 tw_661) rfl rfl rfl (by decide +kernel) ⟨Nat.le_of_ble_eq_true rfl, Nat.le_of_ble_eq_true rfl⟩) hK hP hD hS hA rfl hl.1 rfl (Nat.le_of_ble_eq_true rfl) dX7_inSet_24 ⟨Nat.le_of_ble_eq_true rfl, Nat.le_of_ble_eq_true rfl⟩ (fun H locs hP hD hS => ?_)
    refine lv_if_eq (tgt := 34) hx hb dX7_inSet_27 (by decide) (fun c_2 => ?_) (fun c_2 => ?_)
    · obtain ⟨hx4, hxk⟩ := hkx hm2 c_2
      refine lv_aload_n hx hb dX7_inSet_34 rfl (lv_at hl 0 rfl) ?_
      refine kr_get (C := "MonitorWaysModel") (T := TX7) (N := 27) hx hb hts hin_X7 hown hK hP 0 (by decide) (R_0 _ _ _ _) rfl 15 (by decide) lk_f54 (fun _ h9 => h9) rfl dX7_inSet_35 ?_
      refine lv_iconst (v := 4) hx hb dX7_inSet_38 (by decide) ?_
      refine lv_iload_n hx hb dX7_inSet_39 rfl (lv_at hl 1 rfl) ?_
      refine kr_topi (y := nI mm) hmk ?_
      refine lv_imul hx hb dX7_inSet_40 ?_
      refine kr_topi (y := nI (4 * mm)) (pk_mul 4 mm) ?_
      refine lv_iload_n hx hb dX7_inSet_41 rfl (lv_at hl 2 rfl) ?_
      refine kr_topi (y := nI kx) hxk ?_
      refine lv_iadd hx hb dX7_inSet_42 ?_
      refine kr_topi (y := nI ((4 * mm) + kx)) (nI_add (4 * mm) kx) ?_
      refine kr_ialdN hx hb hK hP 15 0 (by decide) (R_15 _ _ _ _) rfl (j := ((4 * mm) + kx)) (by omega) (by decide) dX7_inSet_43 ?_
      exact kr_iret hx hb hr hlocks hK hP hD hS (by unfold r_oInSet; rw [if_pos c_1, if_pos c_2]) (mem4 (by unfold m_oInSet; first | (rw [if_pos c_1, if_pos c_2]; done) | simp only [if_pos c_1, if_pos c_2]) (by unfold n_oInSet; first | (rw [if_pos c_1, if_pos c_2]; done) | simp only [if_pos c_1, if_pos c_2])) dX7_inSet_44
    · refine lv_iconst (v := (-1)) hx hb dX7_inSet_30 (by decide) ?_
      refine lv_goto (tgt := 44) hx hb dX7_inSet_31 (by decide) ?_
      exact kr_iret hx hb hr hlocks hK hP hD hS (by unfold r_oInSet; rw [if_pos c_1, if_neg c_2]) (mem4 (by unfold m_oInSet; first | (rw [if_pos c_1, if_neg c_2]; done) | simp only [if_pos c_1, if_neg c_2]) (by unfold n_oInSet; first | (rw [if_pos c_1, if_neg c_2]; done) | simp only [if_pos c_1, if_neg c_2])) dX7_inSet_44
def r_oOutcome (iv : Nat → Nat → Int32) (lv : Nat → Nat → Int64) (k : Int32) (kx : Nat) : Int64 := if (r_oOut iv k (iv 0 23)) = 0 then lv 18 kx else (-1)
set_option maxHeartbeats 4000000 in
set_option maxRecDepth 100000 in
theorem c_oOutcome (l : Launch) (D : va_G) (gc : Nat → ClassId) (ad ln : Nat → Nat) (iv : Nat → Nat → Int32) (lv : Nat → Nat → Int64) (k : Int32) (kx : Nat) (hkx : r_oOut iv k (iv 0 23) = 0 → kx < 3001 ∧ k = nI kx) : kMl l yX7_outcome wX7_outcome ({ frames := 1, cells := 0, slots := 0, locals := 21 }) D vwCl (kT gc) 20 (rE gc) [.ref (ad 0), .int k] (ad, ln, iv, lv) (ad, ln, iv, lv) (r_oOutcome iv lv k kx) := by
  refine kl_start (cc := cX7_outcome) (maxL := 2) (ret := (some .long)) (by decide) rfl (Nat.le_of_ble_eq_true rfl) ?_
  intro p9 e9 s m9 below meth c9 A ls hx hb hr hts hown hlocks hml hA hK hP hD hS hl
  have hl : lv_has ls 2 [(0, .ref (ad 0)), (1, .int k)] := hl
  have hown : s.vm.findClass "MonitorWaysModel" = some m9.cls := hown
  have hin_X7 : ∀ w ∈ u_ws "MonitorWaysModel" TX7 27, w ∈ wX7_outcome := fun w h => tcons (inX7 w h)
  have lk_f152 := hts _ (tcons tw_597)
  have lk_f63 := hts _ (tcons tw_598)
  have lk_c198 := hts _ (tcons tw_794)
  refine lv_iload_n hx hb dX7_outcome_0 rfl (lv_at hl 1 rfl) ?_
  refine lv_aload_n hx hb dX7_outcome_1 rfl (lv_at hl 0 rfl) ?_
  refine kr_get (C := "MonitorWaysModel") (T := TX7) (N := 27) hx hb hts hin_X7 hown hK hP 0 (by decide) (R_0 _ _ _ _) rfl 23 (by decide) lk_f152 (fun _ h9 => h9) rfl dX7_outcome_2 ?_
  refine kr_callSi (As := [.int k, .int (iv 0 23)]) (rest := []) ⟨hx, hb, hml, hown, hts⟩ (c_oOut l D gc ad ln iv lv k (iv 0 23)) (cwS 2 hts (goodS (fun _ h => tcons h) tw_659 tw_660 tw_8 tw_661) rfl rfl rfl (by decide +kernel) ⟨Nat.le_of_ble_eq_true rfl, Nat.le_of_ble_eq_true rfl⟩) hK hP hD hS hA rfl hl.1 rfl (Nat.le_of_ble_eq_true rfl) dX7_outcome_5 ⟨Nat.le_of_ble_eq_true rfl, Nat.le_of_ble_eq_true rfl⟩ (fun H locs hP hD hS => ?_)
  refine lv_if_eq (tgt := 17) hx hb dX7_outcome_8 (by decide) (fun c_1 => ?_) (fun c_1 => ?_)
  · obtain ⟨hx4, hxk⟩ := hkx c_1
    refine lv_aload_n hx hb dX7_outcome_17 rfl (lv_at hl 0 rfl) ?_
    refine kr_get (C := "MonitorWaysModel") (T := TX7) (N := 27) hx hb hts hin_X7 hown hK hP 0 (by decide) (R_0 _ _ _ _) rfl 24 (by decide) lk_f63 (fun _ h9 => h9) rfl dX7_outcome_18 ?_
    refine lv_iload_n hx hb dX7_outcome_21 rfl (lv_at hl 1 rfl) ?_
    refine kr_topi (y := nI kx) hxk ?_
    refine kr_laldN hx hb hK hP 18 2 (by decide) (R_18 _ _ _ _) rfl (j := kx) (by omega) (by decide) dX7_outcome_22 ?_
    exact kr_lret hx hb hr hlocks hK hP hD hS (by unfold r_oOutcome; rw [if_pos c_1]) rfl dX7_outcome_23
  · refine lv_ldc2 (v := (-1)) hx hb hown lk_c198 dX7_outcome_11 ?_
    refine lv_goto (tgt := 23) hx hb dX7_outcome_14 (by decide) ?_
    exact kr_lret hx hb hr hlocks hK hP hD hS (by unfold r_oOutcome; rw [if_neg c_1]) rfl dX7_outcome_23
def r_oBlock (iv : Nat → Nat → Int32) (tt : Int32) (t : Nat) : Int32 := if (r_oOut iv tt 4) = 0 then (if iv 19 t = 0 then (0 : Int32) else 1) else 0
theorem nb_oBlock (iv : Nat → Nat → Int32) (tt : Int32) (t : Nat) : narrow .boolean (.int (r_oBlock iv tt t)) = .int (r_oBlock iv tt t) := by
  unfold r_oBlock; repeat' split
  all_goals rfl
set_option maxHeartbeats 4000000 in
set_option maxRecDepth 100000 in
theorem c_oBlock (l : Launch) (D : va_G) (gc : Nat → ClassId) (ad ln : Nat → Nat) (iv : Nat → Nat → Int32) (lv : Nat → Nat → Int64) (tt : Int32) (t : Nat) (ht : r_oOut iv tt 4 = 0 → t < 4 ∧ tt = nI t) : kMi l yX7_mayBlock wX7_mayBlock ({ frames := 1, cells := 0, slots := 0, locals := 21 }) D vwCl (kT gc) 20 (rE gc) [.ref (ad 0), .int tt] (ad, ln, iv, lv) (ad, ln, iv, lv) (r_oBlock iv tt t) := by
  refine ki_start (cc := cX7_mayBlock) (maxL := 2) (ret := (some .boolean)) (by decide) rfl (Nat.le_of_ble_eq_true rfl) ?_
  intro p9 e9 s m9 below meth c9 A ls hx hb hr hts hown hlocks hml hA hK hP hD hS hl
  have hl : lv_has ls 2 [(0, .ref (ad 0)), (1, .int tt)] := hl
  have hown : s.vm.findClass "MonitorWaysModel" = some m9.cls := hown
  have hin_X7 : ∀ w ∈ u_ws "MonitorWaysModel" TX7 27, w ∈ wX7_mayBlock := fun w h => tcons (inX7 w h)
  have lk_f66 := hts _ (tcons tw_599)
  refine lv_iload_n hx hb dX7_mayBlock_0 rfl (lv_at hl 1 rfl) ?_
  refine lv_iconst (v := 4) hx hb dX7_mayBlock_1 (by decide) ?_
  refine kr_callSi (As := [.int tt, .int 4]) (rest := []) ⟨hx, hb, hml, hown, hts⟩ (c_oOut l D gc ad ln iv lv tt 4) (cwS 2 hts (goodS (fun _ h => tcons h) tw_659 tw_660 tw_8 tw_661) rfl rfl rfl (by decide +kernel) ⟨Nat.le_of_ble_eq_true rfl, Nat.le_of_ble_eq_true rfl⟩) hK hP hD hS hA rfl hl.1 rfl (Nat.le_of_ble_eq_true rfl) dX7_mayBlock_2 ⟨Nat.le_of_ble_eq_true rfl, Nat.le_of_ble_eq_true rfl⟩ (fun H locs hP hD hS => ?_)
  refine lv_if_ne (tgt := 21) hx hb dX7_mayBlock_5 (by decide) (fun c_1 => ?_) (fun c_1 => ?_)
  · refine lv_iconst (v := 0) hx hb dX7_mayBlock_21 (by decide) ?_
    exact kr_zret hx hb hr hlocks hK hP hD hS (by decide) (by unfold r_oBlock; rw [if_neg c_1]) rfl dX7_mayBlock_22
  · obtain ⟨ht4, htt⟩ := ht c_1
    refine lv_aload_n hx hb dX7_mayBlock_8 rfl (lv_at hl 0 rfl) ?_
    refine kr_get (C := "MonitorWaysModel") (T := TX7) (N := 27) hx hb hts hin_X7 hown hK hP 0 (by decide) (R_0 _ _ _ _) rfl 25 (by decide) lk_f66 (fun _ h9 => h9) rfl dX7_mayBlock_9 ?_
    refine lv_iload_n hx hb dX7_mayBlock_12 rfl (lv_at hl 1 rfl) ?_
    refine kr_topi (y := nI t) htt ?_
    refine kr_zaldN hx hb hK hP 19 1 (by decide) (R_19 _ _ _ _) rfl (j := t) (by omega) (by decide) dX7_mayBlock_13 ?_
    refine kr_tern (M := 22) (cnd := iv 19 t = 0) (a := 0) (b := 1) (rest := []) (fun ja jb => ?_) ?_
    · refine lv_if_eq (tgt := 21) hx hb dX7_mayBlock_14 (by decide) (fun c_2 => ?_) (fun c_2 => ?_)
      · refine lv_iconst (v := 0) hx hb dX7_mayBlock_21 (by decide) ?_
        exact ja c_2
      · refine lv_iconst (v := 1) hx hb dX7_mayBlock_17 (by decide) ?_
        refine lv_goto (tgt := 22) hx hb dX7_mayBlock_18 (by decide) ?_
        exact jb c_2
    exact kr_zret hx hb hr hlocks hK hP hD hS (nb_ite (by decide) (by decide)) (by unfold r_oBlock; rw [if_pos c_1]) rfl dX7_mayBlock_22
def r_oCount (iv : Nat → Nat → Int32) (k : Int32) : Int32 := if k = 0 then iv 0 17 else if k = 1 then iv 0 19 else if k = 2 then iv 0 20 else if k = 3 then iv 0 21 else if k = 4 then iv 0 22 else (-1)
set_option maxHeartbeats 4000000 in
set_option maxRecDepth 100000 in
theorem c_oCount (l : Launch) (D : va_G) (gc : Nat → ClassId) (ad ln : Nat → Nat) (iv : Nat → Nat → Int32) (lv : Nat → Nat → Int64) (k : Int32) : kMi l yX7_count wX7_count ({ frames := 0, cells := 0, slots := 0, locals := 0 }) D vwCl (kT gc) 20 (rE gc) [.ref (ad 0), .int k] (ad, ln, iv, lv) (ad, ln, iv, lv) (r_oCount iv k) := by
  refine ki_start (cc := cX7_count) (maxL := 2) (ret := (some .int)) (by decide) rfl (Nat.le_of_ble_eq_true rfl) ?_
  intro p9 e9 s m9 below meth c9 A ls hx hb hr hts hown hlocks hml hA hK hP hD hS hl
  have hl : lv_has ls 2 [(0, .ref (ad 0)), (1, .int k)] := hl
  have hown : s.vm.findClass "MonitorWaysModel" = some m9.cls := hown
  have hin_X7 : ∀ w ∈ u_ws "MonitorWaysModel" TX7 27, w ∈ wX7_count := fun w h => tcons (inX7 w h)
  have lk_f156 := hts _ (tcons tw_596)
  have lk_f159 := hts _ (tcons tw_595)
  have lk_f162 := hts _ (tcons tw_594)
  have lk_f165 := hts _ (tcons tw_593)
  have lk_f181 := hts _ (tcons tw_591)
  refine lv_iload_n hx hb dX7_count_0 rfl (lv_at hl 1 rfl) ?_
  refine lv_if_ne (tgt := 11) hx hb dX7_count_1 (by decide) (fun c_1 => ?_) (fun c_1 => ?_)
  · refine lv_iload_n hx hb dX7_count_11 rfl (lv_at hl 1 rfl) ?_
    refine lv_iconst (v := 1) hx hb dX7_count_12 (by decide) ?_
    refine lv_icmp_ne (tgt := 23) hx hb dX7_count_13 (by decide) (fun c_2 => ?_) (fun c_2 => ?_)
    · refine lv_iload_n hx hb dX7_count_23 rfl (lv_at hl 1 rfl) ?_
      refine lv_iconst (v := 2) hx hb dX7_count_24 (by decide) ?_
      refine lv_icmp_ne (tgt := 35) hx hb dX7_count_25 (by decide) (fun c_3 => ?_) (fun c_3 => ?_)
      · refine lv_iload_n hx hb dX7_count_35 rfl (lv_at hl 1 rfl) ?_
        refine lv_iconst (v := 3) hx hb dX7_count_36 (by decide) ?_
        refine lv_icmp_ne (tgt := 47) hx hb dX7_count_37 (by decide) (fun c_4 => ?_) (fun c_4 => ?_)
        · refine lv_iload_n hx hb dX7_count_47 rfl (lv_at hl 1 rfl) ?_
          refine lv_iconst (v := 4) hx hb dX7_count_48 (by decide) ?_
          refine lv_icmp_ne (tgt := 59) hx hb dX7_count_49 (by decide) (fun c_5 => ?_) (fun c_5 => ?_)
          · refine lv_iconst (v := (-1)) hx hb dX7_count_59 (by decide) ?_
            exact kr_iret hx hb hr hlocks hK hP hD hS (by unfold r_oCount; rw [if_neg c_1, if_neg c_2, if_neg c_3, if_neg c_4, if_neg c_5]) rfl dX7_count_60
          · refine lv_aload_n hx hb dX7_count_52 rfl (lv_at hl 0 rfl) ?_
            refine kr_get (C := "MonitorWaysModel") (T := TX7) (N := 27) hx hb hts hin_X7 hown hK hP 0 (by decide) (R_0 _ _ _ _) rfl 22 (by decide) lk_f156 (fun _ h9 => h9) rfl dX7_count_53 ?_
            refine lv_goto (tgt := 60) hx hb dX7_count_56 (by decide) ?_
            exact kr_iret hx hb hr hlocks hK hP hD hS (by unfold r_oCount; rw [if_neg c_1, if_neg c_2, if_neg c_3, if_neg c_4, if_pos c_5]) rfl dX7_count_60
        · refine lv_aload_n hx hb dX7_count_40 rfl (lv_at hl 0 rfl) ?_
          refine kr_get (C := "MonitorWaysModel") (T := TX7) (N := 27) hx hb hts hin_X7 hown hK hP 0 (by decide) (R_0 _ _ _ _) rfl 21 (by decide) lk_f159 (fun _ h9 => h9) rfl dX7_count_41 ?_
          refine lv_goto (tgt := 60) hx hb dX7_count_44 (by decide) ?_
          exact kr_iret hx hb hr hlocks hK hP hD hS (by unfold r_oCount; rw [if_neg c_1, if_neg c_2, if_neg c_3, if_pos c_4]) rfl dX7_count_60
      · refine lv_aload_n hx hb dX7_count_28 rfl (lv_at hl 0 rfl) ?_
        refine kr_get (C := "MonitorWaysModel") (T := TX7) (N := 27) hx hb hts hin_X7 hown hK hP 0 (by decide) (R_0 _ _ _ _) rfl 20 (by decide) lk_f162 (fun _ h9 => h9) rfl dX7_count_29 ?_
        refine lv_goto (tgt := 60) hx hb dX7_count_32 (by decide) ?_
        exact kr_iret hx hb hr hlocks hK hP hD hS (by unfold r_oCount; rw [if_neg c_1, if_neg c_2, if_pos c_3]) rfl dX7_count_60
    · refine lv_aload_n hx hb dX7_count_16 rfl (lv_at hl 0 rfl) ?_
      refine kr_get (C := "MonitorWaysModel") (T := TX7) (N := 27) hx hb hts hin_X7 hown hK hP 0 (by decide) (R_0 _ _ _ _) rfl 19 (by decide) lk_f165 (fun _ h9 => h9) rfl dX7_count_17 ?_
      refine lv_goto (tgt := 60) hx hb dX7_count_20 (by decide) ?_
      exact kr_iret hx hb hr hlocks hK hP hD hS (by unfold r_oCount; rw [if_neg c_1, if_pos c_2]) rfl dX7_count_60
  · refine lv_aload_n hx hb dX7_count_4 rfl (lv_at hl 0 rfl) ?_
    refine kr_get (C := "MonitorWaysModel") (T := TX7) (N := 27) hx hb hts hin_X7 hown hK hP 0 (by decide) (R_0 _ _ _ _) rfl 17 (by decide) lk_f181 (fun _ h9 => h9) rfl dX7_count_5 ?_
    refine lv_goto (tgt := 60) hx hb dX7_count_8 (by decide) ?_
    exact kr_iret hx hb hr hlocks hK hP hD hS (by unfold r_oCount; rw [if_pos c_1]) rfl dX7_count_60
def r_oAllowed (iv : Nat → Nat → Int32) (lv : Nat → Nat → Int64) (tt : Int32) (t : Nat) (way : Int32) (mm u p : Nat) : Int32 := if (r_oOut (m_oUnp iv lv 16 0) tt 4) = 0 then if (r_oOut (m_oUnp iv lv 16 0) way 4) = 0 then (if (r_oMay (m_oUnp iv lv 16 0) t mm u p way) = 0 then (0 : Int32) else 1) else 0 else 0
theorem nb_oAllowed (iv : Nat → Nat → Int32) (lv : Nat → Nat → Int64) (tt : Int32) (t : Nat) (way : Int32) (mm u p : Nat) : narrow .boolean (.int (r_oAllowed iv lv tt t way mm u p)) = .int (r_oAllowed iv lv tt t way mm u p) := by
  unfold r_oAllowed; repeat' split
  all_goals rfl
def n_oAllowed (iv : Nat → Nat → Int32) (lv : Nat → Nat → Int64) (tt : Int32) (t : Nat) (way : Int32) (mm u p : Nat) : Nat → Nat → Int64 := if (r_oOut (m_oUnp iv lv 16 0) tt 4) = 0 then if (r_oOut (m_oUnp iv lv 16 0) way 4) = 0 then (n_oUnp iv lv 16 0) else (n_oUnp iv lv 16 0) else (n_oUnp iv lv 16 0)
def m_oAllowed (iv : Nat → Nat → Int32) (lv : Nat → Nat → Int64) (tt : Int32) (t : Nat) (way : Int32) (mm u p : Nat) : Nat → Nat → Int32 := if (r_oOut (m_oUnp iv lv 16 0) tt 4) = 0 then if (r_oOut (m_oUnp iv lv 16 0) way 4) = 0 then (m_oUnp iv lv 16 0) else (m_oUnp iv lv 16 0) else (m_oUnp iv lv 16 0)
set_option maxHeartbeats 4000000 in
set_option maxRecDepth 100000 in
theorem c_oAllowed (l : Launch) (D : va_G) (gc : Nat → ClassId) (ad ln : Nat → Nat) (iv : Nat → Nat → Int32) (lv : Nat → Nat → Int64) (tt : Int32) (t : Nat) (ht : r_oOut iv tt 4 = 0 → t < 4 ∧ tt = nI t) (way : Int32) (mm u p : Nat) (hmm : mm < 2) (hu : u < 4) (hR : t < 4 → okR (m_oUnp iv lv 16 0) t p mm u) : kMi l yX7_allowed wX7_allowed ({ frames := 3, cells := 0, slots := 0, locals := 68 }) D vwCl (kT gc) 20 (rE gc) [.ref (ad 0), .int tt, .int way] (ad, ln, iv, lv) (ad, ln, m_oAllowed iv lv tt t way mm u p, n_oAllowed iv lv tt t way mm u p) (r_oAllowed iv lv tt t way mm u p) := by
  refine ki_start (cc := cX7_allowed) (maxL := 3) (ret := (some .boolean)) (by decide) rfl (Nat.le_of_ble_eq_true rfl) ?_
  intro p9 e9 s m9 below meth c9 A ls hx hb hr hts hown hlocks hml hA hK hP hD hS hl
  have hl : lv_has ls 3 [(0, .ref (ad 0)), (1, .int tt), (2, .int way)] := hl
  have hown : s.vm.findClass "MonitorWaysModel" = some m9.cls := hown
  have hin_X7 : ∀ w ∈ u_ws "MonitorWaysModel" TX7 27, w ∈ wX7_allowed := fun w h => tcons (inX7 w h)
  have lk_f57 := hts _ (tcons tw_590)
  refine lv_aload_n hx hb dX7_allowed_0 rfl (lv_at hl 0 rfl) ?_
  refine lv_aload_n hx hb dX7_allowed_1 rfl (lv_at hl 0 rfl) ?_
  refine kr_get (C := "MonitorWaysModel") (T := TX7) (N := 27) hx hb hts hin_X7 hown hK hP 0 (by decide) (R_0 _ _ _ _) rfl 16 (by decide) lk_f57 (fun _ h9 => h9) rfl dX7_allowed_2 ?_
  refine lv_iconst (v := 0) hx hb dX7_allowed_5 (by decide) ?_
  refine kr_callVv (As := [.ref (ad 16), .int 0]) (rest := []) ⟨hx, hb, hml, hown, hts⟩ (c_oUnp l D gc ad ln iv lv 16 0 (Or.inl rfl) (by decide)) (cwV 2 hts (goodV (fun _ h => tcons h) tw_670 tw_672 ts_28 tw_8 tw_673) rfl rfl rfl (by decide +kernel) ⟨Nat.le_of_ble_eq_true rfl, Nat.le_of_ble_eq_true rfl⟩) (kr_recv hK hP 0 (by decide) (R_0 _ _ _ _) rfl) hK hP hD hS hA rfl hl.1 rfl (Nat.le_of_ble_eq_true rfl) dX7_allowed_6 ⟨Nat.le_of_ble_eq_true rfl, Nat.le_of_ble_eq_true rfl⟩ (fun H locs hP hD hS => ?_)
  refine lv_iload_n hx hb dX7_allowed_9 rfl (lv_at hl 1 rfl) ?_
  refine lv_iconst (v := 4) hx hb dX7_allowed_10 (by decide) ?_
  refine kr_callSi (As := [.int tt, .int 4]) (rest := []) ⟨hx, hb, hml, hown, hts⟩ (c_oOut l D gc ad ln (m_oUnp iv lv 16 0) (n_oUnp iv lv 16 0) tt 4) (cwS 2 hts (goodS (fun _ h => tcons h) tw_659 tw_660 tw_8 tw_661) rfl rfl rfl (by decide +kernel) ⟨Nat.le_of_ble_eq_true rfl, Nat.le_of_ble_eq_true rfl⟩) hK hP hD hS hA rfl hl.1 rfl (Nat.le_of_ble_eq_true rfl) dX7_allowed_11 ⟨Nat.le_of_ble_eq_true rfl, Nat.le_of_ble_eq_true rfl⟩ (fun H locs hP hD hS => ?_)
  refine lv_if_ne (tgt := 38) hx hb dX7_allowed_14 (by decide) (fun c_1 => ?_) (fun c_1 => ?_)
  · refine lv_iconst (v := 0) hx hb dX7_allowed_38 (by decide) ?_
    exact kr_zret hx hb hr hlocks hK hP hD hS (by decide) (by unfold r_oAllowed; rw [if_neg c_1]) (mem4 (by unfold m_oAllowed; first | (rw [if_neg c_1]; done) | simp only [if_neg c_1]) (by unfold n_oAllowed; first | (rw [if_neg c_1]; done) | simp only [if_neg c_1])) dX7_allowed_39
  · obtain ⟨ht4, htt⟩ := ht c_1
    refine lv_iload_n hx hb dX7_allowed_17 rfl (lv_at hl 2 rfl) ?_
    refine lv_iconst (v := 4) hx hb dX7_allowed_18 (by decide) ?_
    refine kr_callSi (As := [.int way, .int 4]) (rest := []) ⟨hx, hb, hml, hown, hts⟩ (c_oOut l D gc ad ln (m_oUnp iv lv 16 0) (n_oUnp iv lv 16 0) way 4) (cwS 2 hts (goodS (fun _ h => tcons h) tw_659 tw_660 tw_8 tw_661) rfl rfl rfl (by decide +kernel) ⟨Nat.le_of_ble_eq_true rfl, Nat.le_of_ble_eq_true rfl⟩) hK hP hD hS hA rfl hl.1 rfl (Nat.le_of_ble_eq_true rfl) dX7_allowed_19 ⟨Nat.le_of_ble_eq_true rfl, Nat.le_of_ble_eq_true rfl⟩ (fun H locs hP hD hS => ?_)
    refine lv_if_ne (tgt := 38) hx hb dX7_allowed_22 (by decide) (fun c_2 => ?_) (fun c_2 => ?_)
    · refine lv_iconst (v := 0) hx hb dX7_allowed_38 (by decide) ?_
      exact kr_zret hx hb hr hlocks hK hP hD hS (by decide) (by unfold r_oAllowed; rw [if_pos c_1, if_neg c_2]) (mem4 (by unfold m_oAllowed; first | (rw [if_pos c_1, if_neg c_2]; done) | simp only [if_pos c_1, if_neg c_2]) (by unfold n_oAllowed; first | (rw [if_pos c_1, if_neg c_2]; done) | simp only [if_pos c_1, if_neg c_2])) dX7_allowed_39
    · refine lv_aload_n hx hb dX7_allowed_25 rfl (lv_at hl 0 rfl) ?_
      refine lv_iload_n hx hb dX7_allowed_26 rfl (lv_at hl 1 rfl) ?_
      refine kr_topi (y := nI t) htt ?_
      refine lv_iload_n hx hb dX7_allowed_27 rfl (lv_at hl 2 rfl) ?_
      refine kr_callVi (As := [.int (nI t), .int way]) (rest := []) ⟨hx, hb, hml, hown, hts⟩ (c_oMay l D gc ad ln (m_oUnp iv lv 16 0) (n_oUnp iv lv 16 0) t mm u p (by omega) hmm hu way (hR ht4)) (cwV 2 hts (goodV (fun _ h => tcons h) tw_679 tw_681 ts_30 tw_8 tw_682) rfl rfl rfl (by decide +kernel) ⟨Nat.le_of_ble_eq_true rfl, Nat.le_of_ble_eq_true rfl⟩) (kr_recv hK hP 0 (by decide) (R_0 _ _ _ _) rfl) hK hP hD hS hA rfl hl.1 rfl (Nat.le_of_ble_eq_true rfl) dX7_allowed_28 ⟨Nat.le_of_ble_eq_true rfl, Nat.le_of_ble_eq_true rfl⟩ (fun H locs hP hD hS => ?_)
      refine kr_tern (M := 39) (cnd := (r_oMay (m_oUnp iv lv 16 0) t mm u p way) = 0) (a := 0) (b := 1) (rest := []) (fun ja jb => ?_) ?_
      · refine lv_if_eq (tgt := 38) hx hb dX7_allowed_31 (by decide) (fun c_3 => ?_) (fun c_3 => ?_)
        · refine lv_iconst (v := 0) hx hb dX7_allowed_38 (by decide) ?_
          exact ja c_3
        · refine lv_iconst (v := 1) hx hb dX7_allowed_34 (by decide) ?_
          refine lv_goto (tgt := 39) hx hb dX7_allowed_35 (by decide) ?_
          exact jb c_3
      exact kr_zret hx hb hr hlocks hK hP hD hS (nb_ite (by decide) (by decide)) (by unfold r_oAllowed; rw [if_pos c_1, if_pos c_2]) (mem4 (by unfold m_oAllowed; first | (rw [if_pos c_1, if_pos c_2]; done) | simp only [if_pos c_1, if_pos c_2]) (by unfold n_oAllowed; first | (rw [if_pos c_1, if_pos c_2]; done) | simp only [if_pos c_1, if_pos c_2])) dX7_allowed_39
def r_oChoose (iv : Nat → Nat → Int32) (lv : Nat → Nat → Int64) (tt : Int32) (t : Nat) (way : Int32) (mm u p sz v1 v2 k0 : Nat) : Int32 := if (r_oOut iv tt 4) = 0 then if (r_oOut iv way 4) = 0 then if (r_oMay (m_oUnp iv lv 16 0) t mm u p way) = 0 then 0 else 1 else (-1) else (-1)
def n_oChoose (iv : Nat → Nat → Int32) (lv : Nat → Nat → Int64) (tt : Int32) (t : Nat) (way : Int32) (mm u p sz v1 v2 k0 : Nat) : Nat → Nat → Int64 := if (r_oOut iv tt 4) = 0 then if (r_oOut iv way 4) = 0 then if (r_oMay (m_oUnp iv lv 16 0) t mm u p way) = 0 then (n_oUnp iv lv 16 0) else (n_oPack (m_oPerf (m_oUnp iv lv 16 0) t mm u p way sz v1 v2 k0) (n_oPerf (m_oUnp iv lv 16 0) (n_oUnp iv lv 16 0) t mm u p way sz v1 v2 k0) 16 0) else lv else lv
def m_oChoose (iv : Nat → Nat → Int32) (lv : Nat → Nat → Int64) (tt : Int32) (t : Nat) (way : Int32) (mm u p sz v1 v2 k0 : Nat) : Nat → Nat → Int32 := if (r_oOut iv tt 4) = 0 then if (r_oOut iv way 4) = 0 then if (r_oMay (m_oUnp iv lv 16 0) t mm u p way) = 0 then (m_oUnp iv lv 16 0) else (up2 (m_oPerf (m_oUnp iv lv 16 0) t mm u p way sz v1 v2 k0) 0 17 (((m_oPerf (m_oUnp iv lv 16 0) t mm u p way sz v1 v2 k0) 0 17) + 1)) else iv else iv
set_option maxHeartbeats 4000000 in
set_option maxRecDepth 100000 in
theorem c_oChoose (l : Launch) (D : va_G) (gc : Nat → ClassId) (ad ln : Nat → Nat) (iv : Nat → Nat → Int32) (lv : Nat → Nat → Int64) (tt : Int32) (t : Nat) (ht : r_oOut iv tt 4 = 0 → t < 4 ∧ tt = nI t) (way : Int32) (mm u p : Nat) (hmm : mm < 2) (hu : u < 4) (hR : t < 4 → okR (m_oUnp iv lv 16 0) t p mm u) (sz v1 v2 k0 : Nat) (hM : t < 4 → ¬ r_oMay (m_oUnp iv lv 16 0) t mm u p way = 0 → (m_oUnp iv lv 16 0) 5 t = 0 → r_oAction (m_oUnp iv lv 16 0) t p < 6 → okMon (up2 (m_oUnp iv lv 16 0) 4 t (nI (p + 1))) t mm (r_oAction (m_oUnp iv lv 16 0) t p) way sz v1 v2) (hL : t < 4 → ¬ r_oMay (m_oUnp iv lv 16 0) t mm u p way = 0 → ¬ (m_oUnp iv lv 16 0) 5 t = 0 → ¬ (m_oUnp iv lv 16 0) 5 t = 2 → ¬ (m_oUnp iv lv 16 0) 5 t = 3 → okLv (m_oUnp iv lv 16 0) t p mm sz k0) : kMi l yX7_choose wX7_choose ({ frames := 6, cells := 0, slots := 0, locals := 137 }) D vwCl (kT gc) 20 (rE gc) [.ref (ad 0), .int tt, .int way] (ad, ln, iv, lv) (ad, ln, m_oChoose iv lv tt t way mm u p sz v1 v2 k0, n_oChoose iv lv tt t way mm u p sz v1 v2 k0) (r_oChoose iv lv tt t way mm u p sz v1 v2 k0) := by
  refine ki_start (cc := cX7_choose) (maxL := 3) (ret := (some .int)) (by decide) rfl (Nat.le_of_ble_eq_true rfl) ?_
  intro p9 e9 s m9 below meth c9 A ls hx hb hr hts hown hlocks hml hA hK hP hD hS hl
  have hl : lv_has ls 3 [(0, .ref (ad 0)), (1, .int tt), (2, .int way)] := hl
  have hown : s.vm.findClass "MonitorWaysModel" = some m9.cls := hown
  have hin_X7 : ∀ w ∈ u_ws "MonitorWaysModel" TX7 27, w ∈ wX7_choose := fun w h => tcons (inX7 w h)
  have lk_f57 := hts _ (tcons tw_590)
  have lk_f181 := hts _ (tcons tw_591)
  refine lv_iload_n hx hb dX7_choose_0 rfl (lv_at hl 1 rfl) ?_
  refine lv_iconst (v := 4) hx hb dX7_choose_1 (by decide) ?_
  refine kr_callSi (As := [.int tt, .int 4]) (rest := []) ⟨hx, hb, hml, hown, hts⟩ (c_oOut l D gc ad ln iv lv tt 4) (cwS 2 hts (goodS (fun _ h => tcons h) tw_659 tw_660 tw_8 tw_661) rfl rfl rfl (by decide +kernel) ⟨Nat.le_of_ble_eq_true rfl, Nat.le_of_ble_eq_true rfl⟩) hK hP hD hS hA rfl hl.1 rfl (Nat.le_of_ble_eq_true rfl) dX7_choose_2 ⟨Nat.le_of_ble_eq_true rfl, Nat.le_of_ble_eq_true rfl⟩ (fun H locs hP hD hS => ?_)
  refine lv_if_ne (tgt := 16) hx hb dX7_choose_5 (by decide) (fun c_1 => ?_) (fun c_1 => ?_)
  · refine lv_iconst (v := (-1)) hx hb dX7_choose_16 (by decide) ?_
    exact kr_iret hx hb hr hlocks hK hP hD hS (by unfold r_oChoose; rw [if_neg c_1]) (mem4 (by unfold m_oChoose; first | (rw [if_neg c_1]; done) | simp only [if_neg c_1]) (by unfold n_oChoose; first | (rw [if_neg c_1]; done) | simp only [if_neg c_1])) dX7_choose_17
  · refine lv_iload_n hx hb dX7_choose_8 rfl (lv_at hl 2 rfl) ?_
    refine lv_iconst (v := 4) hx hb dX7_choose_9 (by decide) ?_
    refine kr_callSi (As := [.int way, .int 4]) (rest := []) ⟨hx, hb, hml, hown, hts⟩ (c_oOut l D gc ad ln iv lv way 4) (cwS 2 hts (goodS (fun _ h => tcons h) tw_659 tw_660 tw_8 tw_661) rfl rfl rfl (by decide +kernel) ⟨Nat.le_of_ble_eq_true rfl, Nat.le_of_ble_eq_true rfl⟩) hK hP hD hS hA rfl hl.1 rfl (Nat.le_of_ble_eq_true rfl) dX7_choose_10 ⟨Nat.le_of_ble_eq_true rfl, Nat.le_of_ble_eq_true rfl⟩ (fun H locs hP hD hS => ?_)
    refine lv_if_eq (tgt := 18) hx hb dX7_choose_13 (by decide) (fun c_2 => ?_) (fun c_2 => ?_)
    · obtain ⟨ht4, htt⟩ := ht c_1
      refine lv_aload_n hx hb dX7_choose_18 rfl (lv_at hl 0 rfl) ?_
      refine lv_aload_n hx hb dX7_choose_19 rfl (lv_at hl 0 rfl) ?_
      refine kr_get (C := "MonitorWaysModel") (T := TX7) (N := 27) hx hb hts hin_X7 hown hK hP 0 (by decide) (R_0 _ _ _ _) rfl 16 (by decide) lk_f57 (fun _ h9 => h9) rfl dX7_choose_20 ?_
      refine lv_iconst (v := 0) hx hb dX7_choose_23 (by decide) ?_
      refine kr_callVv (As := [.ref (ad 16), .int 0]) (rest := []) ⟨hx, hb, hml, hown, hts⟩ (c_oUnp l D gc ad ln iv lv 16 0 (Or.inl rfl) (by decide)) (cwV 2 hts (goodV (fun _ h => tcons h) tw_670 tw_672 ts_28 tw_8 tw_673) rfl rfl rfl (by decide +kernel) ⟨Nat.le_of_ble_eq_true rfl, Nat.le_of_ble_eq_true rfl⟩) (kr_recv hK hP 0 (by decide) (R_0 _ _ _ _) rfl) hK hP hD hS hA rfl hl.1 rfl (Nat.le_of_ble_eq_true rfl) dX7_choose_24 ⟨Nat.le_of_ble_eq_true rfl, Nat.le_of_ble_eq_true rfl⟩ (fun H locs hP hD hS => ?_)
      refine lv_aload_n hx hb dX7_choose_27 rfl (lv_at hl 0 rfl) ?_
      refine lv_iload_n hx hb dX7_choose_28 rfl (lv_at hl 1 rfl) ?_
      refine kr_topi (y := nI t) htt ?_
      refine lv_iload_n hx hb dX7_choose_29 rfl (lv_at hl 2 rfl) ?_
      refine kr_callVi (As := [.int (nI t), .int way]) (rest := []) ⟨hx, hb, hml, hown, hts⟩ (c_oMay l D gc ad ln (m_oUnp iv lv 16 0) (n_oUnp iv lv 16 0) t mm u p (by omega) hmm hu way (hR ht4)) (cwV 2 hts (goodV (fun _ h => tcons h) tw_679 tw_681 ts_30 tw_8 tw_682) rfl rfl rfl (by decide +kernel) ⟨Nat.le_of_ble_eq_true rfl, Nat.le_of_ble_eq_true rfl⟩) (kr_recv hK hP 0 (by decide) (R_0 _ _ _ _) rfl) hK hP hD hS hA rfl hl.1 rfl (Nat.le_of_ble_eq_true rfl) dX7_choose_30 ⟨Nat.le_of_ble_eq_true rfl, Nat.le_of_ble_eq_true rfl⟩ (fun H locs hP hD hS => ?_)
      refine lv_if_ne (tgt := 38) hx hb dX7_choose_33 (by decide) (fun c_3 => ?_) (fun c_3 => ?_)
      · refine lv_aload_n hx hb dX7_choose_38 rfl (lv_at hl 0 rfl) ?_
        refine lv_iload_n hx hb dX7_choose_39 rfl (lv_at hl 1 rfl) ?_
        refine kr_topi (y := nI t) htt ?_
        refine lv_iload_n hx hb dX7_choose_40 rfl (lv_at hl 2 rfl) ?_
        refine kr_callVv (As := [.int (nI t), .int way]) (rest := []) ⟨hx, hb, hml, hown, hts⟩ (c_oPerf l D gc ad ln (m_oUnp iv lv 16 0) (n_oUnp iv lv 16 0) t mm u p (by omega) hmm hu way (hR ht4) sz v1 v2 k0 (hM ht4 c_3) (hL ht4 c_3)) (cwV 2 hts (goodV (fun _ h => tcons h) tw_703 tw_705 ts_36 tw_8 tw_706) rfl rfl rfl (by decide +kernel) ⟨Nat.le_of_ble_eq_true rfl, Nat.le_of_ble_eq_true rfl⟩) (kr_recv hK hP 0 (by decide) (R_0 _ _ _ _) rfl) hK hP hD hS hA rfl hl.1 rfl (Nat.le_of_ble_eq_true rfl) dX7_choose_41 ⟨Nat.le_of_ble_eq_true rfl, Nat.le_of_ble_eq_true rfl⟩ (fun H locs hP hD hS => ?_)
        refine lv_aload_n hx hb dX7_choose_44 rfl (lv_at hl 0 rfl) ?_
        refine lv_aload_n hx hb dX7_choose_45 rfl (lv_at hl 0 rfl) ?_
        refine kr_get (C := "MonitorWaysModel") (T := TX7) (N := 27) hx hb hts hin_X7 hown hK hP 0 (by decide) (R_0 _ _ _ _) rfl 16 (by decide) lk_f57 (fun _ h9 => h9) rfl dX7_choose_46 ?_
        refine lv_iconst (v := 0) hx hb dX7_choose_49 (by decide) ?_
        refine kr_callVv (As := [.ref (ad 16), .int 0]) (rest := []) ⟨hx, hb, hml, hown, hts⟩ (c_oPack l D gc ad ln (m_oPerf (m_oUnp iv lv 16 0) t mm u p way sz v1 v2 k0) (n_oPerf (m_oUnp iv lv 16 0) (n_oUnp iv lv 16 0) t mm u p way sz v1 v2 k0) 16 0 (Or.inl rfl) (by decide)) (cwV 2 hts (goodV (fun _ h => tcons h) tw_564 tw_566 ts_25 tw_8 tw_567) rfl rfl rfl (by decide +kernel) ⟨Nat.le_of_ble_eq_true rfl, Nat.le_of_ble_eq_true rfl⟩) (kr_recv hK hP 0 (by decide) (R_0 _ _ _ _) rfl) hK hP hD hS hA rfl hl.1 rfl (Nat.le_of_ble_eq_true rfl) dX7_choose_50 ⟨Nat.le_of_ble_eq_true rfl, Nat.le_of_ble_eq_true rfl⟩ (fun H locs hP hD hS => ?_)
        refine lv_aload_n hx hb dX7_choose_53 rfl (lv_at hl 0 rfl) ?_
        refine lv_dup hx hb dX7_choose_54 rfl ?_
        refine kr_get (C := "MonitorWaysModel") (T := TX7) (N := 27) hx hb hts hin_X7 hown hK hP 0 (by decide) (R_0 _ _ _ _) rfl 17 (by decide) lk_f181 (fun _ h9 => h9) rfl dX7_choose_55 ?_
        refine lv_iconst (v := 1) hx hb dX7_choose_58 (by decide) ?_
        refine lv_iadd hx hb dX7_choose_59 ?_
        refine kr_put (C := "MonitorWaysModel") (T := TX7) (N := 27) hx hb hts hin_X7 tyX7 ok_tyX7 ok_nX7 hown hK hP hD hS 0 (by decide) (fun _ => R_0 _ _ _ _) rfl 17 (by decide) lk_f181 (fun _ h9 => h9) rfl rfl rfl rfl (fun _ => Nat.le_of_ble_eq_true rfl) (fun _ => rfl) dX7_choose_60 (fun H locs hP hD hS => ?_)
        refine lv_iconst (v := 1) hx hb dX7_choose_63 (by decide) ?_
        exact kr_iret hx hb hr hlocks hK hP hD hS (by unfold r_oChoose; rw [if_pos c_1, if_pos c_2, if_neg c_3]) (mem4 (by unfold m_oChoose; first | (rw [if_pos c_1, if_pos c_2, if_neg c_3]; done) | simp only [if_pos c_1, if_pos c_2, if_neg c_3]) (by unfold n_oChoose; first | (rw [if_pos c_1, if_pos c_2, if_neg c_3]; done) | simp only [if_pos c_1, if_pos c_2, if_neg c_3])) dX7_choose_64
      · refine lv_iconst (v := 0) hx hb dX7_choose_36 (by decide) ?_
        exact kr_iret hx hb hr hlocks hK hP hD hS (by unfold r_oChoose; rw [if_pos c_1, if_pos c_2, if_pos c_3]) (mem4 (by unfold m_oChoose; first | (rw [if_pos c_1, if_pos c_2, if_pos c_3]; done) | simp only [if_pos c_1, if_pos c_2, if_pos c_3]) (by unfold n_oChoose; first | (rw [if_pos c_1, if_pos c_2, if_pos c_3]; done) | simp only [if_pos c_1, if_pos c_2, if_pos c_3])) dX7_choose_37
    · refine lv_iconst (v := (-1)) hx hb dX7_choose_16 (by decide) ?_
      exact kr_iret hx hb hr hlocks hK hP hD hS (by unfold r_oChoose; rw [if_pos c_1, if_neg c_2]) (mem4 (by unfold m_oChoose; first | (rw [if_pos c_1, if_neg c_2]; done) | simp only [if_pos c_1, if_neg c_2]) (by unfold n_oChoose; first | (rw [if_pos c_1, if_neg c_2]; done) | simp only [if_pos c_1, if_neg c_2])) dX7_choose_17
def r_oAct (iv : Nat → Nat → Int32) (lv : Nat → Nat → Int64) (tt : Int32) (t : Nat) (act a : Int32) (n : Nat) : Int32 := if (r_oOut iv tt 4) = 0 then if (r_oOut iv act 13) = 0 then if 6 ≤ act then if act = 6 then if (r_oOut iv a 4) = 0 then if nI n = 6 then (-2) else nI (n + 1) else (-1) else if act = 8 then if (r_oOut iv a 4) = 0 then if nI n = 6 then (-2) else nI (n + 1) else (-1) else if act = 9 then if (r_oOut iv a 4) = 0 then if nI n = 6 then (-2) else nI (n + 1) else (-1) else if act = 11 then if (r_oOut iv a 4) = 0 then if nI n = 6 then (-2) else nI (n + 1) else (-1) else if nI n = 6 then (-2) else nI (n + 1) else if (r_oOut iv a 2) = 0 then if act = 6 then if (r_oOut iv a 4) = 0 then if nI n = 6 then (-2) else nI (n + 1) else (-1) else if act = 8 then if (r_oOut iv a 4) = 0 then if nI n = 6 then (-2) else nI (n + 1) else (-1) else if act = 9 then if (r_oOut iv a 4) = 0 then if nI n = 6 then (-2) else nI (n + 1) else (-1) else if act = 11 then if (r_oOut iv a 4) = 0 then if nI n = 6 then (-2) else nI (n + 1) else (-1) else if nI n = 6 then (-2) else nI (n + 1) else (-1) else (-1) else (-1)
def n_oAct (iv : Nat → Nat → Int32) (lv : Nat → Nat → Int64) (tt : Int32) (t : Nat) (act a : Int32) (n : Nat) : Nat → Nat → Int64 := if (r_oOut iv tt 4) = 0 then if (r_oOut iv act 13) = 0 then if 6 ≤ act then if act = 6 then if (r_oOut iv a 4) = 0 then if nI n = 6 then lv else (n_oReset (up2 (up2 (up2 iv 1 ((6 * t) + n) act) 2 ((6 * t) + n) a) 3 t (nI (n + 1))) lv) else lv else if act = 8 then if (r_oOut iv a 4) = 0 then if nI n = 6 then lv else (n_oReset (up2 (up2 (up2 iv 1 ((6 * t) + n) act) 2 ((6 * t) + n) a) 3 t (nI (n + 1))) lv) else lv else if act = 9 then if (r_oOut iv a 4) = 0 then if nI n = 6 then lv else (n_oReset (up2 (up2 (up2 iv 1 ((6 * t) + n) act) 2 ((6 * t) + n) a) 3 t (nI (n + 1))) lv) else lv else if act = 11 then if (r_oOut iv a 4) = 0 then if nI n = 6 then lv else (n_oReset (up2 (up2 (up2 iv 1 ((6 * t) + n) act) 2 ((6 * t) + n) a) 3 t (nI (n + 1))) lv) else lv else if nI n = 6 then lv else (n_oReset (up2 (up2 (up2 iv 1 ((6 * t) + n) act) 2 ((6 * t) + n) a) 3 t (nI (n + 1))) lv) else if (r_oOut iv a 2) = 0 then if act = 6 then if (r_oOut iv a 4) = 0 then if nI n = 6 then lv else (n_oReset (up2 (up2 (up2 iv 1 ((6 * t) + n) act) 2 ((6 * t) + n) a) 3 t (nI (n + 1))) lv) else lv else if act = 8 then if (r_oOut iv a 4) = 0 then if nI n = 6 then lv else (n_oReset (up2 (up2 (up2 iv 1 ((6 * t) + n) act) 2 ((6 * t) + n) a) 3 t (nI (n + 1))) lv) else lv else if act = 9 then if (r_oOut iv a 4) = 0 then if nI n = 6 then lv else (n_oReset (up2 (up2 (up2 iv 1 ((6 * t) + n) act) 2 ((6 * t) + n) a) 3 t (nI (n + 1))) lv) else lv else if act = 11 then if (r_oOut iv a 4) = 0 then if nI n = 6 then lv else (n_oReset (up2 (up2 (up2 iv 1 ((6 * t) + n) act) 2 ((6 * t) + n) a) 3 t (nI (n + 1))) lv) else lv else if nI n = 6 then lv else (n_oReset (up2 (up2 (up2 iv 1 ((6 * t) + n) act) 2 ((6 * t) + n) a) 3 t (nI (n + 1))) lv) else lv else lv else lv
def m_oAct (iv : Nat → Nat → Int32) (tt : Int32) (t : Nat) (act a : Int32) (n : Nat) : Nat → Nat → Int32 := if (r_oOut iv tt 4) = 0 then if (r_oOut iv act 13) = 0 then if 6 ≤ act then if act = 6 then if (r_oOut iv a 4) = 0 then if nI n = 6 then iv else (m_oForget (m_oReset (up2 (up2 (up2 iv 1 ((6 * t) + n) act) 2 ((6 * t) + n) a) 3 t (nI (n + 1)))) ) else iv else if act = 8 then if (r_oOut iv a 4) = 0 then if nI n = 6 then iv else (m_oForget (m_oReset (up2 (up2 (up2 iv 1 ((6 * t) + n) act) 2 ((6 * t) + n) a) 3 t (nI (n + 1)))) ) else iv else if act = 9 then if (r_oOut iv a 4) = 0 then if nI n = 6 then iv else (m_oForget (m_oReset (up2 (up2 (up2 iv 1 ((6 * t) + n) act) 2 ((6 * t) + n) a) 3 t (nI (n + 1)))) ) else iv else if act = 11 then if (r_oOut iv a 4) = 0 then if nI n = 6 then iv else (m_oForget (m_oReset (up2 (up2 (up2 iv 1 ((6 * t) + n) act) 2 ((6 * t) + n) a) 3 t (nI (n + 1)))) ) else iv else if nI n = 6 then iv else (m_oForget (m_oReset (up2 (up2 (up2 iv 1 ((6 * t) + n) act) 2 ((6 * t) + n) a) 3 t (nI (n + 1)))) ) else if (r_oOut iv a 2) = 0 then if act = 6 then if (r_oOut iv a 4) = 0 then if nI n = 6 then iv else (m_oForget (m_oReset (up2 (up2 (up2 iv 1 ((6 * t) + n) act) 2 ((6 * t) + n) a) 3 t (nI (n + 1)))) ) else iv else if act = 8 then if (r_oOut iv a 4) = 0 then if nI n = 6 then iv else (m_oForget (m_oReset (up2 (up2 (up2 iv 1 ((6 * t) + n) act) 2 ((6 * t) + n) a) 3 t (nI (n + 1)))) ) else iv else if act = 9 then if (r_oOut iv a 4) = 0 then if nI n = 6 then iv else (m_oForget (m_oReset (up2 (up2 (up2 iv 1 ((6 * t) + n) act) 2 ((6 * t) + n) a) 3 t (nI (n + 1)))) ) else iv else if act = 11 then if (r_oOut iv a 4) = 0 then if nI n = 6 then iv else (m_oForget (m_oReset (up2 (up2 (up2 iv 1 ((6 * t) + n) act) 2 ((6 * t) + n) a) 3 t (nI (n + 1)))) ) else iv else if nI n = 6 then iv else (m_oForget (m_oReset (up2 (up2 (up2 iv 1 ((6 * t) + n) act) 2 ((6 * t) + n) a) 3 t (nI (n + 1)))) ) else iv else iv else iv
set_option maxHeartbeats 4000000 in
set_option maxRecDepth 100000 in
theorem c_oAct (l : Launch) (D : va_G) (gc : Nat → ClassId) (ad ln : Nat → Nat) (iv : Nat → Nat → Int32) (lv : Nat → Nat → Int64) (tt : Int32) (t : Nat) (ht : r_oOut iv tt 4 = 0 → t < 4 ∧ tt = nI t) (act a : Int32) (n : Nat) (hn : t < 4 → iv 3 t = nI n ∧ n ≤ 6) : kMi l yX7_act wX7_act ({ frames := 3, cells := 0, slots := 0, locals := 70 }) D vwCl (kT gc) 20 (rE gc) [.ref (ad 0), .int tt, .int act, .int a] (ad, ln, iv, lv) (ad, ln, m_oAct iv tt t act a n, n_oAct iv lv tt t act a n) (r_oAct iv lv tt t act a n) := by
  refine ki_start (cc := cX7_act) (maxL := 5) (ret := (some .int)) (by decide) rfl (Nat.le_of_ble_eq_true rfl) ?_
  intro p9 e9 s m9 below meth c9 A ls hx hb hr hts hown hlocks hml hA hK hP hD hS hl
  have hl : lv_has ls 5 [(0, .ref (ad 0)), (1, .int tt), (2, .int act), (3, .int a)] := hl
  have hown : s.vm.findClass "MonitorWaysModel" = some m9.cls := hown
  have hin_X7 : ∀ w ∈ u_ws "MonitorWaysModel" TX7 27, w ∈ wX7_act := fun w h => tcons (inX7 w h)
  have lk_f16 := hts _ (tcons tw_577)
  have lk_f7 := hts _ (tcons tw_575)
  have lk_f13 := hts _ (tcons tw_576)
  refine lv_iload_n hx hb dX7_act_0 rfl (lv_at hl 1 rfl) ?_
  refine lv_iconst (v := 4) hx hb dX7_act_1 (by decide) ?_
  refine kr_callSi (As := [.int tt, .int 4]) (rest := []) ⟨hx, hb, hml, hown, hts⟩ (c_oOut l D gc ad ln iv lv tt 4) (cwS 2 hts (goodS (fun _ h => tcons h) tw_659 tw_660 tw_8 tw_661) rfl rfl rfl (by decide +kernel) ⟨Nat.le_of_ble_eq_true rfl, Nat.le_of_ble_eq_true rfl⟩) hK hP hD hS hA rfl hl.1 rfl (Nat.le_of_ble_eq_true rfl) dX7_act_2 ⟨Nat.le_of_ble_eq_true rfl, Nat.le_of_ble_eq_true rfl⟩ (fun H locs hP hD hS => ?_)
  refine lv_if_ne (tgt := 17) hx hb dX7_act_5 (by decide) (fun c_1 => ?_) (fun c_1 => ?_)
  · refine lv_iconst (v := (-1)) hx hb dX7_act_17 (by decide) ?_
    exact kr_iret hx hb hr hlocks hK hP hD hS (by unfold r_oAct; rw [if_neg c_1]) (mem4 (by unfold m_oAct; first | (rw [if_neg c_1]; done) | simp only [if_neg c_1]) (by unfold n_oAct; first | (rw [if_neg c_1]; done) | simp only [if_neg c_1])) dX7_act_18
  · refine lv_iload_n hx hb dX7_act_8 rfl (lv_at hl 2 rfl) ?_
    refine lv_bipush (v := 13) hx hb dX7_act_9 (by decide) ?_
    refine kr_callSi (As := [.int act, .int 13]) (rest := []) ⟨hx, hb, hml, hown, hts⟩ (c_oOut l D gc ad ln iv lv act 13) (cwS 2 hts (goodS (fun _ h => tcons h) tw_659 tw_660 tw_8 tw_661) rfl rfl rfl (by decide +kernel) ⟨Nat.le_of_ble_eq_true rfl, Nat.le_of_ble_eq_true rfl⟩) hK hP hD hS hA rfl hl.1 rfl (Nat.le_of_ble_eq_true rfl) dX7_act_11 ⟨Nat.le_of_ble_eq_true rfl, Nat.le_of_ble_eq_true rfl⟩ (fun H locs hP hD hS => ?_)
    refine lv_if_eq (tgt := 19) hx hb dX7_act_14 (by decide) (fun c_2 => ?_) (fun c_2 => ?_)
    · refine lv_iload_n hx hb dX7_act_19 rfl (lv_at hl 2 rfl) ?_
      refine lv_bipush (v := 6) hx hb dX7_act_20 (by decide) ?_
      refine lv_icmp_ge (tgt := 33) hx hb dX7_act_22 (by decide) (fun c_3 => ?_) (fun c_3 => ?_)
      · refine lv_iload_n hx hb dX7_act_33 rfl (lv_at hl 2 rfl) ?_
        refine lv_bipush (v := 6) hx hb dX7_act_34 (by decide) ?_
        refine lv_icmp_eq (tgt := 57) hx hb dX7_act_36 (by decide) (fun c_4 => ?_) (fun c_4 => ?_)
        · refine lv_iload_n hx hb dX7_act_57 rfl (lv_at hl 3 rfl) ?_
          refine lv_iconst (v := 4) hx hb dX7_act_58 (by decide) ?_
          refine kr_callSi (As := [.int a, .int 4]) (rest := []) ⟨hx, hb, hml, hown, hts⟩ (c_oOut l D gc ad ln iv lv a 4) (cwS 2 hts (goodS (fun _ h => tcons h) tw_659 tw_660 tw_8 tw_661) rfl rfl rfl (by decide +kernel) ⟨Nat.le_of_ble_eq_true rfl, Nat.le_of_ble_eq_true rfl⟩) hK hP hD hS hA rfl hl.1 rfl (Nat.le_of_ble_eq_true rfl) dX7_act_59 ⟨Nat.le_of_ble_eq_true rfl, Nat.le_of_ble_eq_true rfl⟩ (fun H locs hP hD hS => ?_)
          refine lv_if_eq (tgt := 67) hx hb dX7_act_62 (by decide) (fun c_5 => ?_) (fun c_5 => ?_)
          · obtain ⟨ht4, htt⟩ := ht c_1
            obtain ⟨hn1, hn6⟩ := hn ht4
            refine lv_aload_n hx hb dX7_act_67 rfl (lv_at hl 0 rfl) ?_
            refine kr_get (C := "MonitorWaysModel") (T := TX7) (N := 27) hx hb hts hin_X7 hown hK hP 0 (by decide) (R_0 _ _ _ _) rfl 3 (by decide) lk_f16 (fun _ h9 => h9) rfl dX7_act_68 ?_
            refine lv_iload_n hx hb dX7_act_71 rfl (lv_at hl 1 rfl) ?_
            refine kr_topi (y := nI t) htt ?_
            refine kr_ialdN hx hb hK hP 3 0 (by decide) (R_3 _ _ _ _) rfl (j := t) (by omega) (by decide) dX7_act_72 ?_
            refine kr_topi (y := nI n) hn1 ?_
            refine lv_istore (lv' := [(4, .int (nI n)), (0, .ref (ad 0)), (1, .int tt), (2, .int act), (3, .int a)]) hx hb dX7_act_73 hl (by decide) rfl (fun ls hl => ?_)
            refine lv_iload hx hb dX7_act_75 (lv_at hl 0 rfl) ?_
            refine lv_bipush (v := 6) hx hb dX7_act_77 (by decide) ?_
            refine lv_icmp_ne (tgt := 85) hx hb dX7_act_79 (by decide) (fun c_6 => ?_) (fun c_6 => ?_)
            · have hn5 : n < 6 := by rcases Nat.lt_or_ge n 6 with h | h; exact h; exact absurd (by rw [show n = 6 by omega]; rfl) c_6
              refine lv_aload_n hx hb dX7_act_85 rfl (lv_at hl 1 rfl) ?_
              refine kr_get (C := "MonitorWaysModel") (T := TX7) (N := 27) hx hb hts hin_X7 hown hK hP 0 (by decide) (R_0 _ _ _ _) rfl 1 (by decide) lk_f7 (fun _ h9 => h9) rfl dX7_act_86 ?_
              refine lv_bipush (v := 6) hx hb dX7_act_89 (by decide) ?_
              refine lv_iload_n hx hb dX7_act_91 rfl (lv_at hl 2 rfl) ?_
              refine kr_topi (y := nI t) htt ?_
              refine lv_imul hx hb dX7_act_92 ?_
              refine kr_topi (y := nI (6 * t)) (pk_mul 6 t) ?_
              refine lv_iload hx hb dX7_act_93 (lv_at hl 0 rfl) ?_
              refine lv_iadd hx hb dX7_act_95 ?_
              refine kr_topi (y := nI ((6 * t) + n)) (nI_add (6 * t) n) ?_
              refine lv_iload_n hx hb dX7_act_96 rfl (lv_at hl 3 rfl) ?_
              refine kr_iastN hx hb hK hP hD hS 1 0 (by decide) (fun _ => R_1 _ _ _ _) rfl (j := ((6 * t) + n)) (by omega) (by decide) dX7_act_97 (fun H locs hP hD hS => ?_)
              refine lv_aload_n hx hb dX7_act_98 rfl (lv_at hl 1 rfl) ?_
              refine kr_get (C := "MonitorWaysModel") (T := TX7) (N := 27) hx hb hts hin_X7 hown hK hP 0 (by decide) (R_0 _ _ _ _) rfl 2 (by decide) lk_f13 (fun _ h9 => h9) rfl dX7_act_99 ?_
              refine lv_bipush (v := 6) hx hb dX7_act_102 (by decide) ?_
              refine lv_iload_n hx hb dX7_act_104 rfl (lv_at hl 2 rfl) ?_
              refine kr_topi (y := nI t) htt ?_
              refine lv_imul hx hb dX7_act_105 ?_
              refine kr_topi (y := nI (6 * t)) (pk_mul 6 t) ?_
              refine lv_iload hx hb dX7_act_106 (lv_at hl 0 rfl) ?_
              refine lv_iadd hx hb dX7_act_108 ?_
              refine kr_topi (y := nI ((6 * t) + n)) (nI_add (6 * t) n) ?_
              refine lv_iload_n hx hb dX7_act_109 rfl (lv_at hl 4 rfl) ?_
              refine kr_iastN hx hb hK hP hD hS 2 0 (by decide) (fun _ => R_2 _ _ _ _) rfl (j := ((6 * t) + n)) (by omega) (by decide) dX7_act_110 (fun H locs hP hD hS => ?_)
              refine lv_aload_n hx hb dX7_act_111 rfl (lv_at hl 1 rfl) ?_
              refine kr_get (C := "MonitorWaysModel") (T := TX7) (N := 27) hx hb hts hin_X7 hown hK hP 0 (by decide) (R_0 _ _ _ _) rfl 3 (by decide) lk_f16 (fun _ h9 => h9) rfl dX7_act_112 ?_
              refine lv_iload_n hx hb dX7_act_115 rfl (lv_at hl 2 rfl) ?_
              refine kr_topi (y := nI t) htt ?_
              refine lv_dup2_11 hx hb dX7_act_116 rfl rfl ?_
              refine kr_ialdN hx hb hK hP 3 0 (by decide) (R_3 _ _ _ _) rfl (j := t) (by omega) (by decide) dX7_act_117 ?_
              refine kr_topi (y := nI n) ((up2_ne (by decide)).trans ((up2_ne (by decide)).trans hn1)) ?_
              refine lv_iconst (v := 1) hx hb dX7_act_118 (by decide) ?_
              refine lv_iadd hx hb dX7_act_119 ?_
              refine kr_topi (y := nI (n + 1)) (nI_add n 1) ?_
              refine kr_iastN hx hb hK hP hD hS 3 0 (by decide) (fun _ => R_3 _ _ _ _) rfl (j := t) (by omega) (by decide) dX7_act_120 (fun H locs hP hD hS => ?_)
              refine lv_aload_n hx hb dX7_act_121 rfl (lv_at hl 1 rfl) ?_
              refine kr_callVi (As := []) (rest := []) ⟨hx, hb, hml, hown, hts⟩ (c_oReset l D gc ad ln (up2 (up2 (up2 iv 1 ((6 * t) + n) act) 2 ((6 * t) + n) a) 3 t (nI (n + 1))) lv) (cwV 0 hts (goodV (fun _ h => tcons h) tw_556 tw_557 tw_558 tw_8 tw_559) rfl rfl rfl (by decide +kernel) ⟨Nat.le_of_ble_eq_true rfl, Nat.le_of_ble_eq_true rfl⟩) (kr_recv hK hP 0 (by decide) (R_0 _ _ _ _) rfl) hK hP hD hS hA rfl hl.1 rfl (Nat.le_of_ble_eq_true rfl) dX7_act_122 ⟨Nat.le_of_ble_eq_true rfl, Nat.le_of_ble_eq_true rfl⟩ (fun H locs hP hD hS => ?_)
              refine lv_pop hx hb dX7_act_125 rfl ?_
              refine lv_aload_n hx hb dX7_act_126 rfl (lv_at hl 1 rfl) ?_
              refine kr_callVv (As := []) (rest := []) ⟨hx, hb, hml, hown, hts⟩ (c_oForget l D gc ad ln (m_oReset (up2 (up2 (up2 iv 1 ((6 * t) + n) act) 2 ((6 * t) + n) a) 3 t (nI (n + 1)))) (n_oReset (up2 (up2 (up2 iv 1 ((6 * t) + n) act) 2 ((6 * t) + n) a) 3 t (nI (n + 1))) lv) ) (cwV 0 hts (goodV (fun _ h => tcons h) tw_662 tw_664 ts_27 tw_8 tw_665) rfl rfl rfl (by decide +kernel) ⟨Nat.le_of_ble_eq_true rfl, Nat.le_of_ble_eq_true rfl⟩) (kr_recv hK hP 0 (by decide) (R_0 _ _ _ _) rfl) hK hP hD hS hA rfl hl.1 rfl (Nat.le_of_ble_eq_true rfl) dX7_act_127 ⟨Nat.le_of_ble_eq_true rfl, Nat.le_of_ble_eq_true rfl⟩ (fun H locs hP hD hS => ?_)
              refine lv_iload hx hb dX7_act_130 (lv_at hl 0 rfl) ?_
              refine lv_iconst (v := 1) hx hb dX7_act_132 (by decide) ?_
              refine lv_iadd hx hb dX7_act_133 ?_
              refine kr_topi (y := nI (n + 1)) (nI_add n 1) ?_
              exact kr_iret hx hb hr hlocks hK hP hD hS (by unfold r_oAct; rw [if_pos c_1, if_pos c_2, if_pos c_3, if_pos c_4, if_pos c_5, if_neg c_6]) (mem4 (by unfold m_oAct; first | (rw [if_pos c_1, if_pos c_2, if_pos c_3, if_pos c_4, if_pos c_5, if_neg c_6]; done) | simp only [if_pos c_1, if_pos c_2, if_pos c_3, if_pos c_4, if_pos c_5, if_neg c_6]) (by unfold n_oAct; first | (rw [if_pos c_1, if_pos c_2, if_pos c_3, if_pos c_4, if_pos c_5, if_neg c_6]; done) | simp only [if_pos c_1, if_pos c_2, if_pos c_3, if_pos c_4, if_pos c_5, if_neg c_6])) dX7_act_134
            · refine lv_bipush (v := (-2)) hx hb dX7_act_82 (by decide) ?_
              exact kr_iret hx hb hr hlocks hK hP hD hS (by unfold r_oAct; rw [if_pos c_1, if_pos c_2, if_pos c_3, if_pos c_4, if_pos c_5, if_pos c_6]) (mem4 (by unfold m_oAct; first | (rw [if_pos c_1, if_pos c_2, if_pos c_3, if_pos c_4, if_pos c_5, if_pos c_6]; done) | simp only [if_pos c_1, if_pos c_2, if_pos c_3, if_pos c_4, if_pos c_5, if_pos c_6]) (by unfold n_oAct; first | (rw [if_pos c_1, if_pos c_2, if_pos c_3, if_pos c_4, if_pos c_5, if_pos c_6]; done) | simp only [if_pos c_1, if_pos c_2, if_pos c_3, if_pos c_4, if_pos c_5, if_pos c_6])) dX7_act_84
          · refine lv_iconst (v := (-1)) hx hb dX7_act_65 (by decide) ?_
            exact kr_iret hx hb hr hlocks hK hP hD hS (by unfold r_oAct; rw [if_pos c_1, if_pos c_2, if_pos c_3, if_pos c_4, if_neg c_5]) (mem4 (by unfold m_oAct; first | (rw [if_pos c_1, if_pos c_2, if_pos c_3, if_pos c_4, if_neg c_5]; done) | simp only [if_pos c_1, if_pos c_2, if_pos c_3, if_pos c_4, if_neg c_5]) (by unfold n_oAct; first | (rw [if_pos c_1, if_pos c_2, if_pos c_3, if_pos c_4, if_neg c_5]; done) | simp only [if_pos c_1, if_pos c_2, if_pos c_3, if_pos c_4, if_neg c_5])) dX7_act_66
        · refine lv_iload_n hx hb dX7_act_39 rfl (lv_at hl 2 rfl) ?_
          refine lv_bipush (v := 8) hx hb dX7_act_40 (by decide) ?_
          refine lv_icmp_eq (tgt := 57) hx hb dX7_act_42 (by decide) (fun c_7 => ?_) (fun c_7 => ?_)
          · refine lv_iload_n hx hb dX7_act_57 rfl (lv_at hl 3 rfl) ?_
            refine lv_iconst (v := 4) hx hb dX7_act_58 (by decide) ?_
            refine kr_callSi (As := [.int a, .int 4]) (rest := []) ⟨hx, hb, hml, hown, hts⟩ (c_oOut l D gc ad ln iv lv a 4) (cwS 2 hts (goodS (fun _ h => tcons h) tw_659 tw_660 tw_8 tw_661) rfl rfl rfl (by decide +kernel) ⟨Nat.le_of_ble_eq_true rfl, Nat.le_of_ble_eq_true rfl⟩) hK hP hD hS hA rfl hl.1 rfl (Nat.le_of_ble_eq_true rfl) dX7_act_59 ⟨Nat.le_of_ble_eq_true rfl, Nat.le_of_ble_eq_true rfl⟩ (fun H locs hP hD hS => ?_)
            refine lv_if_eq (tgt := 67) hx hb dX7_act_62 (by decide) (fun c_8 => ?_) (fun c_8 => ?_)
            · obtain ⟨ht4, htt⟩ := ht c_1
              obtain ⟨hn1, hn6⟩ := hn ht4
              refine lv_aload_n hx hb dX7_act_67 rfl (lv_at hl 0 rfl) ?_
              refine kr_get (C := "MonitorWaysModel") (T := TX7) (N := 27) hx hb hts hin_X7 hown hK hP 0 (by decide) (R_0 _ _ _ _) rfl 3 (by decide) lk_f16 (fun _ h9 => h9) rfl dX7_act_68 ?_
              refine lv_iload_n hx hb dX7_act_71 rfl (lv_at hl 1 rfl) ?_
              refine kr_topi (y := nI t) htt ?_
              refine kr_ialdN hx hb hK hP 3 0 (by decide) (R_3 _ _ _ _) rfl (j := t) (by omega) (by decide) dX7_act_72 ?_
              refine kr_topi (y := nI n) hn1 ?_
              refine lv_istore (lv' := [(4, .int (nI n)), (0, .ref (ad 0)), (1, .int tt), (2, .int act), (3, .int a)]) hx hb dX7_act_73 hl (by decide) rfl (fun ls hl => ?_)
              refine lv_iload hx hb dX7_act_75 (lv_at hl 0 rfl) ?_
              refine lv_bipush (v := 6) hx hb dX7_act_77 (by decide) ?_
              refine lv_icmp_ne (tgt := 85) hx hb dX7_act_79 (by decide) (fun c_9 => ?_) (fun c_9 => ?_)
              · have hn5 : n < 6 := by rcases Nat.lt_or_ge n 6 with h | h; exact h; exact absurd (by rw [show n = 6 by omega]; rfl) c_9
                refine lv_aload_n hx hb dX7_act_85 rfl (lv_at hl 1 rfl) ?_
                refine kr_get (C := "MonitorWaysModel") (T := TX7) (N := 27) hx hb hts hin_X7 hown hK hP 0 (by decide) (R_0 _ _ _ _) rfl 1 (by decide) lk_f7 (fun _ h9 => h9) rfl dX7_act_86 ?_
                refine lv_bipush (v := 6) hx hb dX7_act_89 (by decide) ?_
                refine lv_iload_n hx hb dX7_act_91 rfl (lv_at hl 2 rfl) ?_
                refine kr_topi (y := nI t) htt ?_
                refine lv_imul hx hb dX7_act_92 ?_
                refine kr_topi (y := nI (6 * t)) (pk_mul 6 t) ?_
                refine lv_iload hx hb dX7_act_93 (lv_at hl 0 rfl) ?_
                refine lv_iadd hx hb dX7_act_95 ?_
                refine kr_topi (y := nI ((6 * t) + n)) (nI_add (6 * t) n) ?_
                refine lv_iload_n hx hb dX7_act_96 rfl (lv_at hl 3 rfl) ?_
                refine kr_iastN hx hb hK hP hD hS 1 0 (by decide) (fun _ => R_1 _ _ _ _) rfl (j := ((6 * t) + n)) (by omega) (by decide) dX7_act_97 (fun H locs hP hD hS => ?_)
                refine lv_aload_n hx hb dX7_act_98 rfl (lv_at hl 1 rfl) ?_
                refine kr_get (C := "MonitorWaysModel") (T := TX7) (N := 27) hx hb hts hin_X7 hown hK hP 0 (by decide) (R_0 _ _ _ _) rfl 2 (by decide) lk_f13 (fun _ h9 => h9) rfl dX7_act_99 ?_
                refine lv_bipush (v := 6) hx hb dX7_act_102 (by decide) ?_
                refine lv_iload_n hx hb dX7_act_104 rfl (lv_at hl 2 rfl) ?_
                refine kr_topi (y := nI t) htt ?_
                refine lv_imul hx hb dX7_act_105 ?_
                refine kr_topi (y := nI (6 * t)) (pk_mul 6 t) ?_
                refine lv_iload hx hb dX7_act_106 (lv_at hl 0 rfl) ?_
                refine lv_iadd hx hb dX7_act_108 ?_
                refine kr_topi (y := nI ((6 * t) + n)) (nI_add (6 * t) n) ?_
                refine lv_iload_n hx hb dX7_act_109 rfl (lv_at hl 4 rfl) ?_
                refine kr_iastN hx hb hK hP hD hS 2 0 (by decide) (fun _ => R_2 _ _ _ _) rfl (j := ((6 * t) + n)) (by omega) (by decide) dX7_act_110 (fun H locs hP hD hS => ?_)
                refine lv_aload_n hx hb dX7_act_111 rfl (lv_at hl 1 rfl) ?_
                refine kr_get (C := "MonitorWaysModel") (T := TX7) (N := 27) hx hb hts hin_X7 hown hK hP 0 (by decide) (R_0 _ _ _ _) rfl 3 (by decide) lk_f16 (fun _ h9 => h9) rfl dX7_act_112 ?_
                refine lv_iload_n hx hb dX7_act_115 rfl (lv_at hl 2 rfl) ?_
                refine kr_topi (y := nI t) htt ?_
                refine lv_dup2_11 hx hb dX7_act_116 rfl rfl ?_
                refine kr_ialdN hx hb hK hP 3 0 (by decide) (R_3 _ _ _ _) rfl (j := t) (by omega) (by decide) dX7_act_117 ?_
                refine kr_topi (y := nI n) ((up2_ne (by decide)).trans ((up2_ne (by decide)).trans hn1)) ?_
                refine lv_iconst (v := 1) hx hb dX7_act_118 (by decide) ?_
                refine lv_iadd hx hb dX7_act_119 ?_
                refine kr_topi (y := nI (n + 1)) (nI_add n 1) ?_
                refine kr_iastN hx hb hK hP hD hS 3 0 (by decide) (fun _ => R_3 _ _ _ _) rfl (j := t) (by omega) (by decide) dX7_act_120 (fun H locs hP hD hS => ?_)
                refine lv_aload_n hx hb dX7_act_121 rfl (lv_at hl 1 rfl) ?_
                refine kr_callVi (As := []) (rest := []) ⟨hx, hb, hml, hown, hts⟩ (c_oReset l D gc ad ln (up2 (up2 (up2 iv 1 ((6 * t) + n) act) 2 ((6 * t) + n) a) 3 t (nI (n + 1))) lv) (cwV 0 hts (goodV (fun _ h => tcons h) tw_556 tw_557 tw_558 tw_8 tw_559) rfl rfl rfl (by decide +kernel) ⟨Nat.le_of_ble_eq_true rfl, Nat.le_of_ble_eq_true rfl⟩) (kr_recv hK hP 0 (by decide) (R_0 _ _ _ _) rfl) hK hP hD hS hA rfl hl.1 rfl (Nat.le_of_ble_eq_true rfl) dX7_act_122 ⟨Nat.le_of_ble_eq_true rfl, Nat.le_of_ble_eq_true rfl⟩ (fun H locs hP hD hS => ?_)
                refine lv_pop hx hb dX7_act_125 rfl ?_
                refine lv_aload_n hx hb dX7_act_126 rfl (lv_at hl 1 rfl) ?_
                refine kr_callVv (As := []) (rest := []) ⟨hx, hb, hml, hown, hts⟩ (c_oForget l D gc ad ln (m_oReset (up2 (up2 (up2 iv 1 ((6 * t) + n) act) 2 ((6 * t) + n) a) 3 t (nI (n + 1)))) (n_oReset (up2 (up2 (up2 iv 1 ((6 * t) + n) act) 2 ((6 * t) + n) a) 3 t (nI (n + 1))) lv) ) (cwV 0 hts (goodV (fun _ h => tcons h) tw_662 tw_664 ts_27 tw_8 tw_665) rfl rfl rfl (by decide +kernel) ⟨Nat.le_of_ble_eq_true rfl, Nat.le_of_ble_eq_true rfl⟩) (kr_recv hK hP 0 (by decide) (R_0 _ _ _ _) rfl) hK hP hD hS hA rfl hl.1 rfl (Nat.le_of_ble_eq_true rfl) dX7_act_127 ⟨Nat.le_of_ble_eq_true rfl, Nat.le_of_ble_eq_true rfl⟩ (fun H locs hP hD hS => ?_)
                refine lv_iload hx hb dX7_act_130 (lv_at hl 0 rfl) ?_
                refine lv_iconst (v := 1) hx hb dX7_act_132 (by decide) ?_
                refine lv_iadd hx hb dX7_act_133 ?_
                refine kr_topi (y := nI (n + 1)) (nI_add n 1) ?_
                exact kr_iret hx hb hr hlocks hK hP hD hS (by unfold r_oAct; rw [if_pos c_1, if_pos c_2, if_pos c_3, if_neg c_4, if_pos c_7, if_pos c_8, if_neg c_9]) (mem4 (by unfold m_oAct; first | (rw [if_pos c_1, if_pos c_2, if_pos c_3, if_neg c_4, if_pos c_7, if_pos c_8, if_neg c_9]; done) | simp only [if_pos c_1, if_pos c_2, if_pos c_3, if_neg c_4, if_pos c_7, if_pos c_8, if_neg c_9]) (by unfold n_oAct; first | (rw [if_pos c_1, if_pos c_2, if_pos c_3, if_neg c_4, if_pos c_7, if_pos c_8, if_neg c_9]; done) | simp only [if_pos c_1, if_pos c_2, if_pos c_3, if_neg c_4, if_pos c_7, if_pos c_8, if_neg c_9])) dX7_act_134
              · refine lv_bipush (v := (-2)) hx hb dX7_act_82 (by decide) ?_
                exact kr_iret hx hb hr hlocks hK hP hD hS (by unfold r_oAct; rw [if_pos c_1, if_pos c_2, if_pos c_3, if_neg c_4, if_pos c_7, if_pos c_8, if_pos c_9]) (mem4 (by unfold m_oAct; first | (rw [if_pos c_1, if_pos c_2, if_pos c_3, if_neg c_4, if_pos c_7, if_pos c_8, if_pos c_9]; done) | simp only [if_pos c_1, if_pos c_2, if_pos c_3, if_neg c_4, if_pos c_7, if_pos c_8, if_pos c_9]) (by unfold n_oAct; first | (rw [if_pos c_1, if_pos c_2, if_pos c_3, if_neg c_4, if_pos c_7, if_pos c_8, if_pos c_9]; done) | simp only [if_pos c_1, if_pos c_2, if_pos c_3, if_neg c_4, if_pos c_7, if_pos c_8, if_pos c_9])) dX7_act_84
            · refine lv_iconst (v := (-1)) hx hb dX7_act_65 (by decide) ?_
              exact kr_iret hx hb hr hlocks hK hP hD hS (by unfold r_oAct; rw [if_pos c_1, if_pos c_2, if_pos c_3, if_neg c_4, if_pos c_7, if_neg c_8]) (mem4 (by unfold m_oAct; first | (rw [if_pos c_1, if_pos c_2, if_pos c_3, if_neg c_4, if_pos c_7, if_neg c_8]; done) | simp only [if_pos c_1, if_pos c_2, if_pos c_3, if_neg c_4, if_pos c_7, if_neg c_8]) (by unfold n_oAct; first | (rw [if_pos c_1, if_pos c_2, if_pos c_3, if_neg c_4, if_pos c_7, if_neg c_8]; done) | simp only [if_pos c_1, if_pos c_2, if_pos c_3, if_neg c_4, if_pos c_7, if_neg c_8])) dX7_act_66
          · refine lv_iload_n hx hb dX7_act_45 rfl (lv_at hl 2 rfl) ?_
            refine lv_bipush (v := 9) hx hb dX7_act_46 (by decide) ?_
            refine lv_icmp_eq (tgt := 57) hx hb dX7_act_48 (by decide) (fun c_10 => ?_) (fun c_10 => ?_)
            · refine lv_iload_n hx hb dX7_act_57 rfl (lv_at hl 3 rfl) ?_
              refine lv_iconst (v := 4) hx hb dX7_act_58 (by decide) ?_
              refine kr_callSi (As := [.int a, .int 4]) (rest := []) ⟨hx, hb, hml, hown, hts⟩ (c_oOut l D gc ad ln iv lv a 4) (cwS 2 hts (goodS (fun _ h => tcons h) tw_659 tw_660 tw_8 tw_661) rfl rfl rfl (by decide +kernel) ⟨Nat.le_of_ble_eq_true rfl, Nat.le_of_ble_eq_true rfl⟩) hK hP hD hS hA rfl hl.1 rfl (Nat.le_of_ble_eq_true rfl) dX7_act_59 ⟨Nat.le_of_ble_eq_true rfl, Nat.le_of_ble_eq_true rfl⟩ (fun H locs hP hD hS => ?_)
              refine lv_if_eq (tgt := 67) hx hb dX7_act_62 (by decide) (fun c_11 => ?_) (fun c_11 => ?_)
              · obtain ⟨ht4, htt⟩ := ht c_1
                obtain ⟨hn1, hn6⟩ := hn ht4
                refine lv_aload_n hx hb dX7_act_67 rfl (lv_at hl 0 rfl) ?_
                refine kr_get (C := "MonitorWaysModel") (T := TX7) (N := 27) hx hb hts hin_X7 hown hK hP 0 (by decide) (R_0 _ _ _ _) rfl 3 (by decide) lk_f16 (fun _ h9 => h9) rfl dX7_act_68 ?_
                refine lv_iload_n hx hb dX7_act_71 rfl (lv_at hl 1 rfl) ?_
                refine kr_topi (y := nI t) htt ?_
                refine kr_ialdN hx hb hK hP 3 0 (by decide) (R_3 _ _ _ _) rfl (j := t) (by omega) (by decide) dX7_act_72 ?_
                refine kr_topi (y := nI n) hn1 ?_
                refine lv_istore (lv' := [(4, .int (nI n)), (0, .ref (ad 0)), (1, .int tt), (2, .int act), (3, .int a)]) hx hb dX7_act_73 hl (by decide) rfl (fun ls hl => ?_)
                refine lv_iload hx hb dX7_act_75 (lv_at hl 0 rfl) ?_
                refine lv_bipush (v := 6) hx hb dX7_act_77 (by decide) ?_
                refine lv_icmp_ne (tgt := 85) hx hb dX7_act_79 (by decide) (fun c_12 => ?_) (fun c_12 => ?_)
                · have hn5 : n < 6 := by rcases Nat.lt_or_ge n 6 with h | h; exact h; exact absurd (by rw [show n = 6 by omega]; rfl) c_12
                  refine lv_aload_n hx hb dX7_act_85 rfl (lv_at hl 1 rfl) ?_
                  refine kr_get (C := "MonitorWaysModel") (T := TX7) (N := 27) hx hb hts hin_X7 hown hK hP 0 (by decide) (R_0 _ _ _ _) rfl 1 (by decide) lk_f7 (fun _ h9 => h9) rfl dX7_act_86 ?_
                  refine lv_bipush (v := 6) hx hb dX7_act_89 (by decide) ?_
                  refine lv_iload_n hx hb dX7_act_91 rfl (lv_at hl 2 rfl) ?_
                  refine kr_topi (y := nI t) htt ?_
                  refine lv_imul hx hb dX7_act_92 ?_
                  refine kr_topi (y := nI (6 * t)) (pk_mul 6 t) ?_
                  refine lv_iload hx hb dX7_act_93 (lv_at hl 0 rfl) ?_
                  refine lv_iadd hx hb dX7_act_95 ?_
                  refine kr_topi (y := nI ((6 * t) + n)) (nI_add (6 * t) n) ?_
                  refine lv_iload_n hx hb dX7_act_96 rfl (lv_at hl 3 rfl) ?_
                  refine kr_iastN hx hb hK hP hD hS 1 0 (by decide) (fun _ => R_1 _ _ _ _) rfl (j := ((6 * t) + n)) (by omega) (by decide) dX7_act_97 (fun H locs hP hD hS => ?_)
                  refine lv_aload_n hx hb dX7_act_98 rfl (lv_at hl 1 rfl) ?_
                  refine kr_get (C := "MonitorWaysModel") (T := TX7) (N := 27) hx hb hts hin_X7 hown hK hP 0 (by decide) (R_0 _ _ _ _) rfl 2 (by decide) lk_f13 (fun _ h9 => h9) rfl dX7_act_99 ?_
                  refine lv_bipush (v := 6) hx hb dX7_act_102 (by decide) ?_
                  refine lv_iload_n hx hb dX7_act_104 rfl (lv_at hl 2 rfl) ?_
                  refine kr_topi (y := nI t) htt ?_
                  refine lv_imul hx hb dX7_act_105 ?_
                  refine kr_topi (y := nI (6 * t)) (pk_mul 6 t) ?_
                  refine lv_iload hx hb dX7_act_106 (lv_at hl 0 rfl) ?_
                  refine lv_iadd hx hb dX7_act_108 ?_
                  refine kr_topi (y := nI ((6 * t) + n)) (nI_add (6 * t) n) ?_
                  refine lv_iload_n hx hb dX7_act_109 rfl (lv_at hl 4 rfl) ?_
                  refine kr_iastN hx hb hK hP hD hS 2 0 (by decide) (fun _ => R_2 _ _ _ _) rfl (j := ((6 * t) + n)) (by omega) (by decide) dX7_act_110 (fun H locs hP hD hS => ?_)
                  refine lv_aload_n hx hb dX7_act_111 rfl (lv_at hl 1 rfl) ?_
                  refine kr_get (C := "MonitorWaysModel") (T := TX7) (N := 27) hx hb hts hin_X7 hown hK hP 0 (by decide) (R_0 _ _ _ _) rfl 3 (by decide) lk_f16 (fun _ h9 => h9) rfl dX7_act_112 ?_
                  refine lv_iload_n hx hb dX7_act_115 rfl (lv_at hl 2 rfl) ?_
                  refine kr_topi (y := nI t) htt ?_
                  refine lv_dup2_11 hx hb dX7_act_116 rfl rfl ?_
                  refine kr_ialdN hx hb hK hP 3 0 (by decide) (R_3 _ _ _ _) rfl (j := t) (by omega) (by decide) dX7_act_117 ?_
                  refine kr_topi (y := nI n) ((up2_ne (by decide)).trans ((up2_ne (by decide)).trans hn1)) ?_
                  refine lv_iconst (v := 1) hx hb dX7_act_118 (by decide) ?_
                  refine lv_iadd hx hb dX7_act_119 ?_
                  refine kr_topi (y := nI (n + 1)) (nI_add n 1) ?_
                  refine kr_iastN hx hb hK hP hD hS 3 0 (by decide) (fun _ => R_3 _ _ _ _) rfl (j := t) (by omega) (by decide) dX7_act_120 (fun H locs hP hD hS => ?_)
                  refine lv_aload_n hx hb dX7_act_121 rfl (lv_at hl 1 rfl) ?_
                  refine kr_callVi (As := []) (rest := []) ⟨hx, hb, hml, hown, hts⟩ (c_oReset l D gc ad ln (up2 (up2 (up2 iv 1 ((6 * t) + n) act) 2 ((6 * t) + n) a) 3 t (nI (n + 1))) lv) (cwV 0 hts (goodV (fun _ h => tcons h) tw_556 tw_557 tw_558 tw_8 tw_559) rfl rfl rfl (by decide +kernel) ⟨Nat.le_of_ble_eq_true rfl, Nat.le_of_ble_eq_true rfl⟩) (kr_recv hK hP 0 (by decide) (R_0 _ _ _ _) rfl) hK hP hD hS hA rfl hl.1 rfl (Nat.le_of_ble_eq_true rfl) dX7_act_122 ⟨Nat.le_of_ble_eq_true rfl, Nat.le_of_ble_eq_true rfl⟩ (fun H locs hP hD hS => ?_)
                  refine lv_pop hx hb dX7_act_125 rfl ?_
                  refine lv_aload_n hx hb dX7_act_126 rfl (lv_at hl 1 rfl) ?_
                  refine kr_callVv (As := []) (rest := []) ⟨hx, hb, hml, hown, hts⟩ (c_oForget l D gc ad ln (m_oReset (up2 (up2 (up2 iv 1 ((6 * t) + n) act) 2 ((6 * t) + n) a) 3 t (nI (n + 1)))) (n_oReset (up2 (up2 (up2 iv 1 ((6 * t) + n) act) 2 ((6 * t) + n) a) 3 t (nI (n + 1))) lv) ) (cwV 0 hts (goodV (fun _ h => tcons h) tw_662 tw_664 ts_27 tw_8 tw_665) rfl rfl rfl (by decide +kernel) ⟨Nat.le_of_ble_eq_true rfl, Nat.le_of_ble_eq_true rfl⟩) (kr_recv hK hP 0 (by decide) (R_0 _ _ _ _) rfl) hK hP hD hS hA rfl hl.1 rfl (Nat.le_of_ble_eq_true rfl) dX7_act_127 ⟨Nat.le_of_ble_eq_true rfl, Nat.le_of_ble_eq_true rfl⟩ (fun H locs hP hD hS => ?_)
                  refine lv_iload hx hb dX7_act_130 (lv_at hl 0 rfl) ?_
                  refine lv_iconst (v := 1) hx hb dX7_act_132 (by decide) ?_
                  refine lv_iadd hx hb dX7_act_133 ?_
                  refine kr_topi (y := nI (n + 1)) (nI_add n 1) ?_
                  exact kr_iret hx hb hr hlocks hK hP hD hS (by unfold r_oAct; rw [if_pos c_1, if_pos c_2, if_pos c_3, if_neg c_4, if_neg c_7, if_pos c_10, if_pos c_11, if_neg c_12]) (mem4 (by unfold m_oAct; first | (rw [if_pos c_1, if_pos c_2, if_pos c_3, if_neg c_4, if_neg c_7, if_pos c_10, if_pos c_11, if_neg c_12]; done) | simp only [if_pos c_1, if_pos c_2, if_pos c_3, if_neg c_4, if_neg c_7, if_pos c_10, if_pos c_11, if_neg c_12]) (by unfold n_oAct; first | (rw [if_pos c_1, if_pos c_2, if_pos c_3, if_neg c_4, if_neg c_7, if_pos c_10, if_pos c_11, if_neg c_12]; done) | simp only [if_pos c_1, if_pos c_2, if_pos c_3, if_neg c_4, if_neg c_7, if_pos c_10, if_pos c_11, if_neg c_12])) dX7_act_134
                · refine lv_bipush (v := (-2)) hx hb dX7_act_82 (by decide) ?_
                  exact kr_iret hx hb hr hlocks hK hP hD hS (by unfold r_oAct; rw [if_pos c_1, if_pos c_2, if_pos c_3, if_neg c_4, if_neg c_7, if_pos c_10, if_pos c_11, if_pos c_12]) (mem4 (by unfold m_oAct; first | (rw [if_pos c_1, if_pos c_2, if_pos c_3, if_neg c_4, if_neg c_7, if_pos c_10, if_pos c_11, if_pos c_12]; done) | simp only [if_pos c_1, if_pos c_2, if_pos c_3, if_neg c_4, if_neg c_7, if_pos c_10, if_pos c_11, if_pos c_12]) (by unfold n_oAct; first | (rw [if_pos c_1, if_pos c_2, if_pos c_3, if_neg c_4, if_neg c_7, if_pos c_10, if_pos c_11, if_pos c_12]; done) | simp only [if_pos c_1, if_pos c_2, if_pos c_3, if_neg c_4, if_neg c_7, if_pos c_10, if_pos c_11, if_pos c_12])) dX7_act_84
              · refine lv_iconst (v := (-1)) hx hb dX7_act_65 (by decide) ?_
                exact kr_iret hx hb hr hlocks hK hP hD hS (by unfold r_oAct; rw [if_pos c_1, if_pos c_2, if_pos c_3, if_neg c_4, if_neg c_7, if_pos c_10, if_neg c_11]) (mem4 (by unfold m_oAct; first | (rw [if_pos c_1, if_pos c_2, if_pos c_3, if_neg c_4, if_neg c_7, if_pos c_10, if_neg c_11]; done) | simp only [if_pos c_1, if_pos c_2, if_pos c_3, if_neg c_4, if_neg c_7, if_pos c_10, if_neg c_11]) (by unfold n_oAct; first | (rw [if_pos c_1, if_pos c_2, if_pos c_3, if_neg c_4, if_neg c_7, if_pos c_10, if_neg c_11]; done) | simp only [if_pos c_1, if_pos c_2, if_pos c_3, if_neg c_4, if_neg c_7, if_pos c_10, if_neg c_11])) dX7_act_66
            · refine lv_iload_n hx hb dX7_act_51 rfl (lv_at hl 2 rfl) ?_
              refine lv_bipush (v := 11) hx hb dX7_act_52 (by decide) ?_
              refine lv_icmp_ne (tgt := 67) hx hb dX7_act_54 (by decide) (fun c_13 => ?_) (fun c_13 => ?_)
              · obtain ⟨ht4, htt⟩ := ht c_1
                obtain ⟨hn1, hn6⟩ := hn ht4
                refine lv_aload_n hx hb dX7_act_67 rfl (lv_at hl 0 rfl) ?_
                refine kr_get (C := "MonitorWaysModel") (T := TX7) (N := 27) hx hb hts hin_X7 hown hK hP 0 (by decide) (R_0 _ _ _ _) rfl 3 (by decide) lk_f16 (fun _ h9 => h9) rfl dX7_act_68 ?_
                refine lv_iload_n hx hb dX7_act_71 rfl (lv_at hl 1 rfl) ?_
                refine kr_topi (y := nI t) htt ?_
                refine kr_ialdN hx hb hK hP 3 0 (by decide) (R_3 _ _ _ _) rfl (j := t) (by omega) (by decide) dX7_act_72 ?_
                refine kr_topi (y := nI n) hn1 ?_
                refine lv_istore (lv' := [(4, .int (nI n)), (0, .ref (ad 0)), (1, .int tt), (2, .int act), (3, .int a)]) hx hb dX7_act_73 hl (by decide) rfl (fun ls hl => ?_)
                refine lv_iload hx hb dX7_act_75 (lv_at hl 0 rfl) ?_
                refine lv_bipush (v := 6) hx hb dX7_act_77 (by decide) ?_
                refine lv_icmp_ne (tgt := 85) hx hb dX7_act_79 (by decide) (fun c_14 => ?_) (fun c_14 => ?_)
                · have hn5 : n < 6 := by rcases Nat.lt_or_ge n 6 with h | h; exact h; exact absurd (by rw [show n = 6 by omega]; rfl) c_14
                  refine lv_aload_n hx hb dX7_act_85 rfl (lv_at hl 1 rfl) ?_
                  refine kr_get (C := "MonitorWaysModel") (T := TX7) (N := 27) hx hb hts hin_X7 hown hK hP 0 (by decide) (R_0 _ _ _ _) rfl 1 (by decide) lk_f7 (fun _ h9 => h9) rfl dX7_act_86 ?_
                  refine lv_bipush (v := 6) hx hb dX7_act_89 (by decide) ?_
                  refine lv_iload_n hx hb dX7_act_91 rfl (lv_at hl 2 rfl) ?_
                  refine kr_topi (y := nI t) htt ?_
                  refine lv_imul hx hb dX7_act_92 ?_
                  refine kr_topi (y := nI (6 * t)) (pk_mul 6 t) ?_
                  refine lv_iload hx hb dX7_act_93 (lv_at hl 0 rfl) ?_
                  refine lv_iadd hx hb dX7_act_95 ?_
                  refine kr_topi (y := nI ((6 * t) + n)) (nI_add (6 * t) n) ?_
                  refine lv_iload_n hx hb dX7_act_96 rfl (lv_at hl 3 rfl) ?_
                  refine kr_iastN hx hb hK hP hD hS 1 0 (by decide) (fun _ => R_1 _ _ _ _) rfl (j := ((6 * t) + n)) (by omega) (by decide) dX7_act_97 (fun H locs hP hD hS => ?_)
                  refine lv_aload_n hx hb dX7_act_98 rfl (lv_at hl 1 rfl) ?_
                  refine kr_get (C := "MonitorWaysModel") (T := TX7) (N := 27) hx hb hts hin_X7 hown hK hP 0 (by decide) (R_0 _ _ _ _) rfl 2 (by decide) lk_f13 (fun _ h9 => h9) rfl dX7_act_99 ?_
                  refine lv_bipush (v := 6) hx hb dX7_act_102 (by decide) ?_
                  refine lv_iload_n hx hb dX7_act_104 rfl (lv_at hl 2 rfl) ?_
                  refine kr_topi (y := nI t) htt ?_
                  refine lv_imul hx hb dX7_act_105 ?_
                  refine kr_topi (y := nI (6 * t)) (pk_mul 6 t) ?_
                  refine lv_iload hx hb dX7_act_106 (lv_at hl 0 rfl) ?_
                  refine lv_iadd hx hb dX7_act_108 ?_
                  refine kr_topi (y := nI ((6 * t) + n)) (nI_add (6 * t) n) ?_
                  refine lv_iload_n hx hb dX7_act_109 rfl (lv_at hl 4 rfl) ?_
                  refine kr_iastN hx hb hK hP hD hS 2 0 (by decide) (fun _ => R_2 _ _ _ _) rfl (j := ((6 * t) + n)) (by omega) (by decide) dX7_act_110 (fun H locs hP hD hS => ?_)
                  refine lv_aload_n hx hb dX7_act_111 rfl (lv_at hl 1 rfl) ?_
                  refine kr_get (C := "MonitorWaysModel") (T := TX7) (N := 27) hx hb hts hin_X7 hown hK hP 0 (by decide) (R_0 _ _ _ _) rfl 3 (by decide) lk_f16 (fun _ h9 => h9) rfl dX7_act_112 ?_
                  refine lv_iload_n hx hb dX7_act_115 rfl (lv_at hl 2 rfl) ?_
                  refine kr_topi (y := nI t) htt ?_
                  refine lv_dup2_11 hx hb dX7_act_116 rfl rfl ?_
                  refine kr_ialdN hx hb hK hP 3 0 (by decide) (R_3 _ _ _ _) rfl (j := t) (by omega) (by decide) dX7_act_117 ?_
                  refine kr_topi (y := nI n) ((up2_ne (by decide)).trans ((up2_ne (by decide)).trans hn1)) ?_
                  refine lv_iconst (v := 1) hx hb dX7_act_118 (by decide) ?_
                  refine lv_iadd hx hb dX7_act_119 ?_
                  refine kr_topi (y := nI (n + 1)) (nI_add n 1) ?_
                  refine kr_iastN hx hb hK hP hD hS 3 0 (by decide) (fun _ => R_3 _ _ _ _) rfl (j := t) (by omega) (by decide) dX7_act_120 (fun H locs hP hD hS => ?_)
                  refine lv_aload_n hx hb dX7_act_121 rfl (lv_at hl 1 rfl) ?_
                  refine kr_callVi (As := []) (rest := []) ⟨hx, hb, hml, hown, hts⟩ (c_oReset l D gc ad ln (up2 (up2 (up2 iv 1 ((6 * t) + n) act) 2 ((6 * t) + n) a) 3 t (nI (n + 1))) lv) (cwV 0 hts (goodV (fun _ h => tcons h) tw_556 tw_557 tw_558 tw_8 tw_559) rfl rfl rfl (by decide +kernel) ⟨Nat.le_of_ble_eq_true rfl, Nat.le_of_ble_eq_true rfl⟩) (kr_recv hK hP 0 (by decide) (R_0 _ _ _ _) rfl) hK hP hD hS hA rfl hl.1 rfl (Nat.le_of_ble_eq_true rfl) dX7_act_122 ⟨Nat.le_of_ble_eq_true rfl, Nat.le_of_ble_eq_true rfl⟩ (fun H locs hP hD hS => ?_)
                  refine lv_pop hx hb dX7_act_125 rfl ?_
                  refine lv_aload_n hx hb dX7_act_126 rfl (lv_at hl 1 rfl) ?_
                  refine kr_callVv (As := []) (rest := []) ⟨hx, hb, hml, hown, hts⟩ (c_oForget l D gc ad ln (m_oReset (up2 (up2 (up2 iv 1 ((6 * t) + n) act) 2 ((6 * t) + n) a) 3 t (nI (n + 1)))) (n_oReset (up2 (up2 (up2 iv 1 ((6 * t) + n) act) 2 ((6 * t) + n) a) 3 t (nI (n + 1))) lv) ) (cwV 0 hts (goodV (fun _ h => tcons h) tw_662 tw_664 ts_27 tw_8 tw_665) rfl rfl rfl (by decide +kernel) ⟨Nat.le_of_ble_eq_true rfl, Nat.le_of_ble_eq_true rfl⟩) (kr_recv hK hP 0 (by decide) (R_0 _ _ _ _) rfl) hK hP hD hS hA rfl hl.1 rfl (Nat.le_of_ble_eq_true rfl) dX7_act_127 ⟨Nat.le_of_ble_eq_true rfl, Nat.le_of_ble_eq_true rfl⟩ (fun H locs hP hD hS => ?_)
                  refine lv_iload hx hb dX7_act_130 (lv_at hl 0 rfl) ?_
                  refine lv_iconst (v := 1) hx hb dX7_act_132 (by decide) ?_
                  refine lv_iadd hx hb dX7_act_133 ?_
                  refine kr_topi (y := nI (n + 1)) (nI_add n 1) ?_
                  exact kr_iret hx hb hr hlocks hK hP hD hS (by unfold r_oAct; rw [if_pos c_1, if_pos c_2, if_pos c_3, if_neg c_4, if_neg c_7, if_neg c_10, if_neg c_13, if_neg c_14]) (mem4 (by unfold m_oAct; first | (rw [if_pos c_1, if_pos c_2, if_pos c_3, if_neg c_4, if_neg c_7, if_neg c_10, if_neg c_13, if_neg c_14]; done) | simp only [if_pos c_1, if_pos c_2, if_pos c_3, if_neg c_4, if_neg c_7, if_neg c_10, if_neg c_13, if_neg c_14]) (by unfold n_oAct; first | (rw [if_pos c_1, if_pos c_2, if_pos c_3, if_neg c_4, if_neg c_7, if_neg c_10, if_neg c_13, if_neg c_14]; done) | simp only [if_pos c_1, if_pos c_2, if_pos c_3, if_neg c_4, if_neg c_7, if_neg c_10, if_neg c_13, if_neg c_14])) dX7_act_134
                · refine lv_bipush (v := (-2)) hx hb dX7_act_82 (by decide) ?_
                  exact kr_iret hx hb hr hlocks hK hP hD hS (by unfold r_oAct; rw [if_pos c_1, if_pos c_2, if_pos c_3, if_neg c_4, if_neg c_7, if_neg c_10, if_neg c_13, if_pos c_14]) (mem4 (by unfold m_oAct; first | (rw [if_pos c_1, if_pos c_2, if_pos c_3, if_neg c_4, if_neg c_7, if_neg c_10, if_neg c_13, if_pos c_14]; done) | simp only [if_pos c_1, if_pos c_2, if_pos c_3, if_neg c_4, if_neg c_7, if_neg c_10, if_neg c_13, if_pos c_14]) (by unfold n_oAct; first | (rw [if_pos c_1, if_pos c_2, if_pos c_3, if_neg c_4, if_neg c_7, if_neg c_10, if_neg c_13, if_pos c_14]; done) | simp only [if_pos c_1, if_pos c_2, if_pos c_3, if_neg c_4, if_neg c_7, if_neg c_10, if_neg c_13, if_pos c_14])) dX7_act_84
              · refine lv_iload_n hx hb dX7_act_57 rfl (lv_at hl 3 rfl) ?_
                refine lv_iconst (v := 4) hx hb dX7_act_58 (by decide) ?_
                refine kr_callSi (As := [.int a, .int 4]) (rest := []) ⟨hx, hb, hml, hown, hts⟩ (c_oOut l D gc ad ln iv lv a 4) (cwS 2 hts (goodS (fun _ h => tcons h) tw_659 tw_660 tw_8 tw_661) rfl rfl rfl (by decide +kernel) ⟨Nat.le_of_ble_eq_true rfl, Nat.le_of_ble_eq_true rfl⟩) hK hP hD hS hA rfl hl.1 rfl (Nat.le_of_ble_eq_true rfl) dX7_act_59 ⟨Nat.le_of_ble_eq_true rfl, Nat.le_of_ble_eq_true rfl⟩ (fun H locs hP hD hS => ?_)
                refine lv_if_eq (tgt := 67) hx hb dX7_act_62 (by decide) (fun c_15 => ?_) (fun c_15 => ?_)
                · obtain ⟨ht4, htt⟩ := ht c_1
                  obtain ⟨hn1, hn6⟩ := hn ht4
                  refine lv_aload_n hx hb dX7_act_67 rfl (lv_at hl 0 rfl) ?_
                  refine kr_get (C := "MonitorWaysModel") (T := TX7) (N := 27) hx hb hts hin_X7 hown hK hP 0 (by decide) (R_0 _ _ _ _) rfl 3 (by decide) lk_f16 (fun _ h9 => h9) rfl dX7_act_68 ?_
                  refine lv_iload_n hx hb dX7_act_71 rfl (lv_at hl 1 rfl) ?_
                  refine kr_topi (y := nI t) htt ?_
                  refine kr_ialdN hx hb hK hP 3 0 (by decide) (R_3 _ _ _ _) rfl (j := t) (by omega) (by decide) dX7_act_72 ?_
                  refine kr_topi (y := nI n) hn1 ?_
                  refine lv_istore (lv' := [(4, .int (nI n)), (0, .ref (ad 0)), (1, .int tt), (2, .int act), (3, .int a)]) hx hb dX7_act_73 hl (by decide) rfl (fun ls hl => ?_)
                  refine lv_iload hx hb dX7_act_75 (lv_at hl 0 rfl) ?_
                  refine lv_bipush (v := 6) hx hb dX7_act_77 (by decide) ?_
                  refine lv_icmp_ne (tgt := 85) hx hb dX7_act_79 (by decide) (fun c_16 => ?_) (fun c_16 => ?_)
                  · have hn5 : n < 6 := by rcases Nat.lt_or_ge n 6 with h | h; exact h; exact absurd (by rw [show n = 6 by omega]; rfl) c_16
                    refine lv_aload_n hx hb dX7_act_85 rfl (lv_at hl 1 rfl) ?_
                    refine kr_get (C := "MonitorWaysModel") (T := TX7) (N := 27) hx hb hts hin_X7 hown hK hP 0 (by decide) (R_0 _ _ _ _) rfl 1 (by decide) lk_f7 (fun _ h9 => h9) rfl dX7_act_86 ?_
                    refine lv_bipush (v := 6) hx hb dX7_act_89 (by decide) ?_
                    refine lv_iload_n hx hb dX7_act_91 rfl (lv_at hl 2 rfl) ?_
                    refine kr_topi (y := nI t) htt ?_
                    refine lv_imul hx hb dX7_act_92 ?_
                    refine kr_topi (y := nI (6 * t)) (pk_mul 6 t) ?_
                    refine lv_iload hx hb dX7_act_93 (lv_at hl 0 rfl) ?_
                    refine lv_iadd hx hb dX7_act_95 ?_
                    refine kr_topi (y := nI ((6 * t) + n)) (nI_add (6 * t) n) ?_
                    refine lv_iload_n hx hb dX7_act_96 rfl (lv_at hl 3 rfl) ?_
                    refine kr_iastN hx hb hK hP hD hS 1 0 (by decide) (fun _ => R_1 _ _ _ _) rfl (j := ((6 * t) + n)) (by omega) (by decide) dX7_act_97 (fun H locs hP hD hS => ?_)
                    refine lv_aload_n hx hb dX7_act_98 rfl (lv_at hl 1 rfl) ?_
                    refine kr_get (C := "MonitorWaysModel") (T := TX7) (N := 27) hx hb hts hin_X7 hown hK hP 0 (by decide) (R_0 _ _ _ _) rfl 2 (by decide) lk_f13 (fun _ h9 => h9) rfl dX7_act_99 ?_
                    refine lv_bipush (v := 6) hx hb dX7_act_102 (by decide) ?_
                    refine lv_iload_n hx hb dX7_act_104 rfl (lv_at hl 2 rfl) ?_
                    refine kr_topi (y := nI t) htt ?_
                    refine lv_imul hx hb dX7_act_105 ?_
                    refine kr_topi (y := nI (6 * t)) (pk_mul 6 t) ?_
                    refine lv_iload hx hb dX7_act_106 (lv_at hl 0 rfl) ?_
                    refine lv_iadd hx hb dX7_act_108 ?_
                    refine kr_topi (y := nI ((6 * t) + n)) (nI_add (6 * t) n) ?_
                    refine lv_iload_n hx hb dX7_act_109 rfl (lv_at hl 4 rfl) ?_
                    refine kr_iastN hx hb hK hP hD hS 2 0 (by decide) (fun _ => R_2 _ _ _ _) rfl (j := ((6 * t) + n)) (by omega) (by decide) dX7_act_110 (fun H locs hP hD hS => ?_)
                    refine lv_aload_n hx hb dX7_act_111 rfl (lv_at hl 1 rfl) ?_
                    refine kr_get (C := "MonitorWaysModel") (T := TX7) (N := 27) hx hb hts hin_X7 hown hK hP 0 (by decide) (R_0 _ _ _ _) rfl 3 (by decide) lk_f16 (fun _ h9 => h9) rfl dX7_act_112 ?_
                    refine lv_iload_n hx hb dX7_act_115 rfl (lv_at hl 2 rfl) ?_
                    refine kr_topi (y := nI t) htt ?_
                    refine lv_dup2_11 hx hb dX7_act_116 rfl rfl ?_
                    refine kr_ialdN hx hb hK hP 3 0 (by decide) (R_3 _ _ _ _) rfl (j := t) (by omega) (by decide) dX7_act_117 ?_
                    refine kr_topi (y := nI n) ((up2_ne (by decide)).trans ((up2_ne (by decide)).trans hn1)) ?_
                    refine lv_iconst (v := 1) hx hb dX7_act_118 (by decide) ?_
                    refine lv_iadd hx hb dX7_act_119 ?_
                    refine kr_topi (y := nI (n + 1)) (nI_add n 1) ?_
                    refine kr_iastN hx hb hK hP hD hS 3 0 (by decide) (fun _ => R_3 _ _ _ _) rfl (j := t) (by omega) (by decide) dX7_act_120 (fun H locs hP hD hS => ?_)
                    refine lv_aload_n hx hb dX7_act_121 rfl (lv_at hl 1 rfl) ?_
                    refine kr_callVi (As := []) (rest := []) ⟨hx, hb, hml, hown, hts⟩ (c_oReset l D gc ad ln (up2 (up2 (up2 iv 1 ((6 * t) + n) act) 2 ((6 * t) + n) a) 3 t (nI (n + 1))) lv) (cwV 0 hts (goodV (fun _ h => tcons h) tw_556 tw_557 tw_558 tw_8 tw_559) rfl rfl rfl (by decide +kernel) ⟨Nat.le_of_ble_eq_true rfl, Nat.le_of_ble_eq_true rfl⟩) (kr_recv hK hP 0 (by decide) (R_0 _ _ _ _) rfl) hK hP hD hS hA rfl hl.1 rfl (Nat.le_of_ble_eq_true rfl) dX7_act_122 ⟨Nat.le_of_ble_eq_true rfl, Nat.le_of_ble_eq_true rfl⟩ (fun H locs hP hD hS => ?_)
                    refine lv_pop hx hb dX7_act_125 rfl ?_
                    refine lv_aload_n hx hb dX7_act_126 rfl (lv_at hl 1 rfl) ?_
                    refine kr_callVv (As := []) (rest := []) ⟨hx, hb, hml, hown, hts⟩ (c_oForget l D gc ad ln (m_oReset (up2 (up2 (up2 iv 1 ((6 * t) + n) act) 2 ((6 * t) + n) a) 3 t (nI (n + 1)))) (n_oReset (up2 (up2 (up2 iv 1 ((6 * t) + n) act) 2 ((6 * t) + n) a) 3 t (nI (n + 1))) lv) ) (cwV 0 hts (goodV (fun _ h => tcons h) tw_662 tw_664 ts_27 tw_8 tw_665) rfl rfl rfl (by decide +kernel) ⟨Nat.le_of_ble_eq_true rfl, Nat.le_of_ble_eq_true rfl⟩) (kr_recv hK hP 0 (by decide) (R_0 _ _ _ _) rfl) hK hP hD hS hA rfl hl.1 rfl (Nat.le_of_ble_eq_true rfl) dX7_act_127 ⟨Nat.le_of_ble_eq_true rfl, Nat.le_of_ble_eq_true rfl⟩ (fun H locs hP hD hS => ?_)
                    refine lv_iload hx hb dX7_act_130 (lv_at hl 0 rfl) ?_
                    refine lv_iconst (v := 1) hx hb dX7_act_132 (by decide) ?_
                    refine lv_iadd hx hb dX7_act_133 ?_
                    refine kr_topi (y := nI (n + 1)) (nI_add n 1) ?_
                    exact kr_iret hx hb hr hlocks hK hP hD hS (by unfold r_oAct; rw [if_pos c_1, if_pos c_2, if_pos c_3, if_neg c_4, if_neg c_7, if_neg c_10, if_pos c_13, if_pos c_15, if_neg c_16]) (mem4 (by unfold m_oAct; first | (rw [if_pos c_1, if_pos c_2, if_pos c_3, if_neg c_4, if_neg c_7, if_neg c_10, if_pos c_13, if_pos c_15, if_neg c_16]; done) | simp only [if_pos c_1, if_pos c_2, if_pos c_3, if_neg c_4, if_neg c_7, if_neg c_10, if_pos c_13, if_pos c_15, if_neg c_16]) (by unfold n_oAct; first | (rw [if_pos c_1, if_pos c_2, if_pos c_3, if_neg c_4, if_neg c_7, if_neg c_10, if_pos c_13, if_pos c_15, if_neg c_16]; done) | simp only [if_pos c_1, if_pos c_2, if_pos c_3, if_neg c_4, if_neg c_7, if_neg c_10, if_pos c_13, if_pos c_15, if_neg c_16])) dX7_act_134
                  · refine lv_bipush (v := (-2)) hx hb dX7_act_82 (by decide) ?_
                    exact kr_iret hx hb hr hlocks hK hP hD hS (by unfold r_oAct; rw [if_pos c_1, if_pos c_2, if_pos c_3, if_neg c_4, if_neg c_7, if_neg c_10, if_pos c_13, if_pos c_15, if_pos c_16]) (mem4 (by unfold m_oAct; first | (rw [if_pos c_1, if_pos c_2, if_pos c_3, if_neg c_4, if_neg c_7, if_neg c_10, if_pos c_13, if_pos c_15, if_pos c_16]; done) | simp only [if_pos c_1, if_pos c_2, if_pos c_3, if_neg c_4, if_neg c_7, if_neg c_10, if_pos c_13, if_pos c_15, if_pos c_16]) (by unfold n_oAct; first | (rw [if_pos c_1, if_pos c_2, if_pos c_3, if_neg c_4, if_neg c_7, if_neg c_10, if_pos c_13, if_pos c_15, if_pos c_16]; done) | simp only [if_pos c_1, if_pos c_2, if_pos c_3, if_neg c_4, if_neg c_7, if_neg c_10, if_pos c_13, if_pos c_15, if_pos c_16])) dX7_act_84
                · refine lv_iconst (v := (-1)) hx hb dX7_act_65 (by decide) ?_
                  exact kr_iret hx hb hr hlocks hK hP hD hS (by unfold r_oAct; rw [if_pos c_1, if_pos c_2, if_pos c_3, if_neg c_4, if_neg c_7, if_neg c_10, if_pos c_13, if_neg c_15]) (mem4 (by unfold m_oAct; first | (rw [if_pos c_1, if_pos c_2, if_pos c_3, if_neg c_4, if_neg c_7, if_neg c_10, if_pos c_13, if_neg c_15]; done) | simp only [if_pos c_1, if_pos c_2, if_pos c_3, if_neg c_4, if_neg c_7, if_neg c_10, if_pos c_13, if_neg c_15]) (by unfold n_oAct; first | (rw [if_pos c_1, if_pos c_2, if_pos c_3, if_neg c_4, if_neg c_7, if_neg c_10, if_pos c_13, if_neg c_15]; done) | simp only [if_pos c_1, if_pos c_2, if_pos c_3, if_neg c_4, if_neg c_7, if_neg c_10, if_pos c_13, if_neg c_15])) dX7_act_66
      · refine lv_iload_n hx hb dX7_act_25 rfl (lv_at hl 3 rfl) ?_
        refine lv_iconst (v := 2) hx hb dX7_act_26 (by decide) ?_
        refine kr_callSi (As := [.int a, .int 2]) (rest := []) ⟨hx, hb, hml, hown, hts⟩ (c_oOut l D gc ad ln iv lv a 2) (cwS 2 hts (goodS (fun _ h => tcons h) tw_659 tw_660 tw_8 tw_661) rfl rfl rfl (by decide +kernel) ⟨Nat.le_of_ble_eq_true rfl, Nat.le_of_ble_eq_true rfl⟩) hK hP hD hS hA rfl hl.1 rfl (Nat.le_of_ble_eq_true rfl) dX7_act_27 ⟨Nat.le_of_ble_eq_true rfl, Nat.le_of_ble_eq_true rfl⟩ (fun H locs hP hD hS => ?_)
        refine lv_if_ne (tgt := 65) hx hb dX7_act_30 (by decide) (fun c_17 => ?_) (fun c_17 => ?_)
        · refine lv_iconst (v := (-1)) hx hb dX7_act_65 (by decide) ?_
          exact kr_iret hx hb hr hlocks hK hP hD hS (by unfold r_oAct; rw [if_pos c_1, if_pos c_2, if_neg c_3, if_neg c_17]) (mem4 (by unfold m_oAct; first | (rw [if_pos c_1, if_pos c_2, if_neg c_3, if_neg c_17]; done) | simp only [if_pos c_1, if_pos c_2, if_neg c_3, if_neg c_17]) (by unfold n_oAct; first | (rw [if_pos c_1, if_pos c_2, if_neg c_3, if_neg c_17]; done) | simp only [if_pos c_1, if_pos c_2, if_neg c_3, if_neg c_17])) dX7_act_66
        · refine lv_iload_n hx hb dX7_act_33 rfl (lv_at hl 2 rfl) ?_
          refine lv_bipush (v := 6) hx hb dX7_act_34 (by decide) ?_
          refine lv_icmp_eq (tgt := 57) hx hb dX7_act_36 (by decide) (fun c_18 => ?_) (fun c_18 => ?_)
          · refine lv_iload_n hx hb dX7_act_57 rfl (lv_at hl 3 rfl) ?_
            refine lv_iconst (v := 4) hx hb dX7_act_58 (by decide) ?_
            refine kr_callSi (As := [.int a, .int 4]) (rest := []) ⟨hx, hb, hml, hown, hts⟩ (c_oOut l D gc ad ln iv lv a 4) (cwS 2 hts (goodS (fun _ h => tcons h) tw_659 tw_660 tw_8 tw_661) rfl rfl rfl (by decide +kernel) ⟨Nat.le_of_ble_eq_true rfl, Nat.le_of_ble_eq_true rfl⟩) hK hP hD hS hA rfl hl.1 rfl (Nat.le_of_ble_eq_true rfl) dX7_act_59 ⟨Nat.le_of_ble_eq_true rfl, Nat.le_of_ble_eq_true rfl⟩ (fun H locs hP hD hS => ?_)
            refine lv_if_eq (tgt := 67) hx hb dX7_act_62 (by decide) (fun c_19 => ?_) (fun c_19 => ?_)
            · obtain ⟨ht4, htt⟩ := ht c_1
              obtain ⟨hn1, hn6⟩ := hn ht4
              refine lv_aload_n hx hb dX7_act_67 rfl (lv_at hl 0 rfl) ?_
              refine kr_get (C := "MonitorWaysModel") (T := TX7) (N := 27) hx hb hts hin_X7 hown hK hP 0 (by decide) (R_0 _ _ _ _) rfl 3 (by decide) lk_f16 (fun _ h9 => h9) rfl dX7_act_68 ?_
              refine lv_iload_n hx hb dX7_act_71 rfl (lv_at hl 1 rfl) ?_
              refine kr_topi (y := nI t) htt ?_
              refine kr_ialdN hx hb hK hP 3 0 (by decide) (R_3 _ _ _ _) rfl (j := t) (by omega) (by decide) dX7_act_72 ?_
              refine kr_topi (y := nI n) hn1 ?_
              refine lv_istore (lv' := [(4, .int (nI n)), (0, .ref (ad 0)), (1, .int tt), (2, .int act), (3, .int a)]) hx hb dX7_act_73 hl (by decide) rfl (fun ls hl => ?_)
              refine lv_iload hx hb dX7_act_75 (lv_at hl 0 rfl) ?_
              refine lv_bipush (v := 6) hx hb dX7_act_77 (by decide) ?_
              refine lv_icmp_ne (tgt := 85) hx hb dX7_act_79 (by decide) (fun c_20 => ?_) (fun c_20 => ?_)
              · have hn5 : n < 6 := by rcases Nat.lt_or_ge n 6 with h | h; exact h; exact absurd (by rw [show n = 6 by omega]; rfl) c_20
                refine lv_aload_n hx hb dX7_act_85 rfl (lv_at hl 1 rfl) ?_
                refine kr_get (C := "MonitorWaysModel") (T := TX7) (N := 27) hx hb hts hin_X7 hown hK hP 0 (by decide) (R_0 _ _ _ _) rfl 1 (by decide) lk_f7 (fun _ h9 => h9) rfl dX7_act_86 ?_
                refine lv_bipush (v := 6) hx hb dX7_act_89 (by decide) ?_
                refine lv_iload_n hx hb dX7_act_91 rfl (lv_at hl 2 rfl) ?_
                refine kr_topi (y := nI t) htt ?_
                refine lv_imul hx hb dX7_act_92 ?_
                refine kr_topi (y := nI (6 * t)) (pk_mul 6 t) ?_
                refine lv_iload hx hb dX7_act_93 (lv_at hl 0 rfl) ?_
                refine lv_iadd hx hb dX7_act_95 ?_
                refine kr_topi (y := nI ((6 * t) + n)) (nI_add (6 * t) n) ?_
                refine lv_iload_n hx hb dX7_act_96 rfl (lv_at hl 3 rfl) ?_
                refine kr_iastN hx hb hK hP hD hS 1 0 (by decide) (fun _ => R_1 _ _ _ _) rfl (j := ((6 * t) + n)) (by omega) (by decide) dX7_act_97 (fun H locs hP hD hS => ?_)
                refine lv_aload_n hx hb dX7_act_98 rfl (lv_at hl 1 rfl) ?_
                refine kr_get (C := "MonitorWaysModel") (T := TX7) (N := 27) hx hb hts hin_X7 hown hK hP 0 (by decide) (R_0 _ _ _ _) rfl 2 (by decide) lk_f13 (fun _ h9 => h9) rfl dX7_act_99 ?_
                refine lv_bipush (v := 6) hx hb dX7_act_102 (by decide) ?_
                refine lv_iload_n hx hb dX7_act_104 rfl (lv_at hl 2 rfl) ?_
                refine kr_topi (y := nI t) htt ?_
                refine lv_imul hx hb dX7_act_105 ?_
                refine kr_topi (y := nI (6 * t)) (pk_mul 6 t) ?_
                refine lv_iload hx hb dX7_act_106 (lv_at hl 0 rfl) ?_
                refine lv_iadd hx hb dX7_act_108 ?_
                refine kr_topi (y := nI ((6 * t) + n)) (nI_add (6 * t) n) ?_
                refine lv_iload_n hx hb dX7_act_109 rfl (lv_at hl 4 rfl) ?_
                refine kr_iastN hx hb hK hP hD hS 2 0 (by decide) (fun _ => R_2 _ _ _ _) rfl (j := ((6 * t) + n)) (by omega) (by decide) dX7_act_110 (fun H locs hP hD hS => ?_)
                refine lv_aload_n hx hb dX7_act_111 rfl (lv_at hl 1 rfl) ?_
                refine kr_get (C := "MonitorWaysModel") (T := TX7) (N := 27) hx hb hts hin_X7 hown hK hP 0 (by decide) (R_0 _ _ _ _) rfl 3 (by decide) lk_f16 (fun _ h9 => h9) rfl dX7_act_112 ?_
                refine lv_iload_n hx hb dX7_act_115 rfl (lv_at hl 2 rfl) ?_
                refine kr_topi (y := nI t) htt ?_
                refine lv_dup2_11 hx hb dX7_act_116 rfl rfl ?_
                refine kr_ialdN hx hb hK hP 3 0 (by decide) (R_3 _ _ _ _) rfl (j := t) (by omega) (by decide) dX7_act_117 ?_
                refine kr_topi (y := nI n) ((up2_ne (by decide)).trans ((up2_ne (by decide)).trans hn1)) ?_
                refine lv_iconst (v := 1) hx hb dX7_act_118 (by decide) ?_
                refine lv_iadd hx hb dX7_act_119 ?_
                refine kr_topi (y := nI (n + 1)) (nI_add n 1) ?_
                refine kr_iastN hx hb hK hP hD hS 3 0 (by decide) (fun _ => R_3 _ _ _ _) rfl (j := t) (by omega) (by decide) dX7_act_120 (fun H locs hP hD hS => ?_)
                refine lv_aload_n hx hb dX7_act_121 rfl (lv_at hl 1 rfl) ?_
                refine kr_callVi (As := []) (rest := []) ⟨hx, hb, hml, hown, hts⟩ (c_oReset l D gc ad ln (up2 (up2 (up2 iv 1 ((6 * t) + n) act) 2 ((6 * t) + n) a) 3 t (nI (n + 1))) lv) (cwV 0 hts (goodV (fun _ h => tcons h) tw_556 tw_557 tw_558 tw_8 tw_559) rfl rfl rfl (by decide +kernel) ⟨Nat.le_of_ble_eq_true rfl, Nat.le_of_ble_eq_true rfl⟩) (kr_recv hK hP 0 (by decide) (R_0 _ _ _ _) rfl) hK hP hD hS hA rfl hl.1 rfl (Nat.le_of_ble_eq_true rfl) dX7_act_122 ⟨Nat.le_of_ble_eq_true rfl, Nat.le_of_ble_eq_true rfl⟩ (fun H locs hP hD hS => ?_)
                refine lv_pop hx hb dX7_act_125 rfl ?_
                refine lv_aload_n hx hb dX7_act_126 rfl (lv_at hl 1 rfl) ?_
                refine kr_callVv (As := []) (rest := []) ⟨hx, hb, hml, hown, hts⟩ (c_oForget l D gc ad ln (m_oReset (up2 (up2 (up2 iv 1 ((6 * t) + n) act) 2 ((6 * t) + n) a) 3 t (nI (n + 1)))) (n_oReset (up2 (up2 (up2 iv 1 ((6 * t) + n) act) 2 ((6 * t) + n) a) 3 t (nI (n + 1))) lv) ) (cwV 0 hts (goodV (fun _ h => tcons h) tw_662 tw_664 ts_27 tw_8 tw_665) rfl rfl rfl (by decide +kernel) ⟨Nat.le_of_ble_eq_true rfl, Nat.le_of_ble_eq_true rfl⟩) (kr_recv hK hP 0 (by decide) (R_0 _ _ _ _) rfl) hK hP hD hS hA rfl hl.1 rfl (Nat.le_of_ble_eq_true rfl) dX7_act_127 ⟨Nat.le_of_ble_eq_true rfl, Nat.le_of_ble_eq_true rfl⟩ (fun H locs hP hD hS => ?_)
                refine lv_iload hx hb dX7_act_130 (lv_at hl 0 rfl) ?_
                refine lv_iconst (v := 1) hx hb dX7_act_132 (by decide) ?_
                refine lv_iadd hx hb dX7_act_133 ?_
                refine kr_topi (y := nI (n + 1)) (nI_add n 1) ?_
                exact kr_iret hx hb hr hlocks hK hP hD hS (by unfold r_oAct; rw [if_pos c_1, if_pos c_2, if_neg c_3, if_pos c_17, if_pos c_18, if_pos c_19, if_neg c_20]) (mem4 (by unfold m_oAct; first | (rw [if_pos c_1, if_pos c_2, if_neg c_3, if_pos c_17, if_pos c_18, if_pos c_19, if_neg c_20]; done) | simp only [if_pos c_1, if_pos c_2, if_neg c_3, if_pos c_17, if_pos c_18, if_pos c_19, if_neg c_20]) (by unfold n_oAct; first | (rw [if_pos c_1, if_pos c_2, if_neg c_3, if_pos c_17, if_pos c_18, if_pos c_19, if_neg c_20]; done) | simp only [if_pos c_1, if_pos c_2, if_neg c_3, if_pos c_17, if_pos c_18, if_pos c_19, if_neg c_20])) dX7_act_134
              · refine lv_bipush (v := (-2)) hx hb dX7_act_82 (by decide) ?_
                exact kr_iret hx hb hr hlocks hK hP hD hS (by unfold r_oAct; rw [if_pos c_1, if_pos c_2, if_neg c_3, if_pos c_17, if_pos c_18, if_pos c_19, if_pos c_20]) (mem4 (by unfold m_oAct; first | (rw [if_pos c_1, if_pos c_2, if_neg c_3, if_pos c_17, if_pos c_18, if_pos c_19, if_pos c_20]; done) | simp only [if_pos c_1, if_pos c_2, if_neg c_3, if_pos c_17, if_pos c_18, if_pos c_19, if_pos c_20]) (by unfold n_oAct; first | (rw [if_pos c_1, if_pos c_2, if_neg c_3, if_pos c_17, if_pos c_18, if_pos c_19, if_pos c_20]; done) | simp only [if_pos c_1, if_pos c_2, if_neg c_3, if_pos c_17, if_pos c_18, if_pos c_19, if_pos c_20])) dX7_act_84
            · refine lv_iconst (v := (-1)) hx hb dX7_act_65 (by decide) ?_
              exact kr_iret hx hb hr hlocks hK hP hD hS (by unfold r_oAct; rw [if_pos c_1, if_pos c_2, if_neg c_3, if_pos c_17, if_pos c_18, if_neg c_19]) (mem4 (by unfold m_oAct; first | (rw [if_pos c_1, if_pos c_2, if_neg c_3, if_pos c_17, if_pos c_18, if_neg c_19]; done) | simp only [if_pos c_1, if_pos c_2, if_neg c_3, if_pos c_17, if_pos c_18, if_neg c_19]) (by unfold n_oAct; first | (rw [if_pos c_1, if_pos c_2, if_neg c_3, if_pos c_17, if_pos c_18, if_neg c_19]; done) | simp only [if_pos c_1, if_pos c_2, if_neg c_3, if_pos c_17, if_pos c_18, if_neg c_19])) dX7_act_66
          · refine lv_iload_n hx hb dX7_act_39 rfl (lv_at hl 2 rfl) ?_
            refine lv_bipush (v := 8) hx hb dX7_act_40 (by decide) ?_
            refine lv_icmp_eq (tgt := 57) hx hb dX7_act_42 (by decide) (fun c_21 => ?_) (fun c_21 => ?_)
            · refine lv_iload_n hx hb dX7_act_57 rfl (lv_at hl 3 rfl) ?_
              refine lv_iconst (v := 4) hx hb dX7_act_58 (by decide) ?_
              refine kr_callSi (As := [.int a, .int 4]) (rest := []) ⟨hx, hb, hml, hown, hts⟩ (c_oOut l D gc ad ln iv lv a 4) (cwS 2 hts (goodS (fun _ h => tcons h) tw_659 tw_660 tw_8 tw_661) rfl rfl rfl (by decide +kernel) ⟨Nat.le_of_ble_eq_true rfl, Nat.le_of_ble_eq_true rfl⟩) hK hP hD hS hA rfl hl.1 rfl (Nat.le_of_ble_eq_true rfl) dX7_act_59 ⟨Nat.le_of_ble_eq_true rfl, Nat.le_of_ble_eq_true rfl⟩ (fun H locs hP hD hS => ?_)
              refine lv_if_eq (tgt := 67) hx hb dX7_act_62 (by decide) (fun c_22 => ?_) (fun c_22 => ?_)
              · obtain ⟨ht4, htt⟩ := ht c_1
                obtain ⟨hn1, hn6⟩ := hn ht4
                refine lv_aload_n hx hb dX7_act_67 rfl (lv_at hl 0 rfl) ?_
                refine kr_get (C := "MonitorWaysModel") (T := TX7) (N := 27) hx hb hts hin_X7 hown hK hP 0 (by decide) (R_0 _ _ _ _) rfl 3 (by decide) lk_f16 (fun _ h9 => h9) rfl dX7_act_68 ?_
                refine lv_iload_n hx hb dX7_act_71 rfl (lv_at hl 1 rfl) ?_
                refine kr_topi (y := nI t) htt ?_
                refine kr_ialdN hx hb hK hP 3 0 (by decide) (R_3 _ _ _ _) rfl (j := t) (by omega) (by decide) dX7_act_72 ?_
                refine kr_topi (y := nI n) hn1 ?_
                refine lv_istore (lv' := [(4, .int (nI n)), (0, .ref (ad 0)), (1, .int tt), (2, .int act), (3, .int a)]) hx hb dX7_act_73 hl (by decide) rfl (fun ls hl => ?_)
                refine lv_iload hx hb dX7_act_75 (lv_at hl 0 rfl) ?_
                refine lv_bipush (v := 6) hx hb dX7_act_77 (by decide) ?_
                refine lv_icmp_ne (tgt := 85) hx hb dX7_act_79 (by decide) (fun c_23 => ?_) (fun c_23 => ?_)
                · have hn5 : n < 6 := by rcases Nat.lt_or_ge n 6 with h | h; exact h; exact absurd (by rw [show n = 6 by omega]; rfl) c_23
                  refine lv_aload_n hx hb dX7_act_85 rfl (lv_at hl 1 rfl) ?_
                  refine kr_get (C := "MonitorWaysModel") (T := TX7) (N := 27) hx hb hts hin_X7 hown hK hP 0 (by decide) (R_0 _ _ _ _) rfl 1 (by decide) lk_f7 (fun _ h9 => h9) rfl dX7_act_86 ?_
                  refine lv_bipush (v := 6) hx hb dX7_act_89 (by decide) ?_
                  refine lv_iload_n hx hb dX7_act_91 rfl (lv_at hl 2 rfl) ?_
                  refine kr_topi (y := nI t) htt ?_
                  refine lv_imul hx hb dX7_act_92 ?_
                  refine kr_topi (y := nI (6 * t)) (pk_mul 6 t) ?_
                  refine lv_iload hx hb dX7_act_93 (lv_at hl 0 rfl) ?_
                  refine lv_iadd hx hb dX7_act_95 ?_
                  refine kr_topi (y := nI ((6 * t) + n)) (nI_add (6 * t) n) ?_
                  refine lv_iload_n hx hb dX7_act_96 rfl (lv_at hl 3 rfl) ?_
                  refine kr_iastN hx hb hK hP hD hS 1 0 (by decide) (fun _ => R_1 _ _ _ _) rfl (j := ((6 * t) + n)) (by omega) (by decide) dX7_act_97 (fun H locs hP hD hS => ?_)
                  refine lv_aload_n hx hb dX7_act_98 rfl (lv_at hl 1 rfl) ?_
                  refine kr_get (C := "MonitorWaysModel") (T := TX7) (N := 27) hx hb hts hin_X7 hown hK hP 0 (by decide) (R_0 _ _ _ _) rfl 2 (by decide) lk_f13 (fun _ h9 => h9) rfl dX7_act_99 ?_
                  refine lv_bipush (v := 6) hx hb dX7_act_102 (by decide) ?_
                  refine lv_iload_n hx hb dX7_act_104 rfl (lv_at hl 2 rfl) ?_
                  refine kr_topi (y := nI t) htt ?_
                  refine lv_imul hx hb dX7_act_105 ?_
                  refine kr_topi (y := nI (6 * t)) (pk_mul 6 t) ?_
                  refine lv_iload hx hb dX7_act_106 (lv_at hl 0 rfl) ?_
                  refine lv_iadd hx hb dX7_act_108 ?_
                  refine kr_topi (y := nI ((6 * t) + n)) (nI_add (6 * t) n) ?_
                  refine lv_iload_n hx hb dX7_act_109 rfl (lv_at hl 4 rfl) ?_
                  refine kr_iastN hx hb hK hP hD hS 2 0 (by decide) (fun _ => R_2 _ _ _ _) rfl (j := ((6 * t) + n)) (by omega) (by decide) dX7_act_110 (fun H locs hP hD hS => ?_)
                  refine lv_aload_n hx hb dX7_act_111 rfl (lv_at hl 1 rfl) ?_
                  refine kr_get (C := "MonitorWaysModel") (T := TX7) (N := 27) hx hb hts hin_X7 hown hK hP 0 (by decide) (R_0 _ _ _ _) rfl 3 (by decide) lk_f16 (fun _ h9 => h9) rfl dX7_act_112 ?_
                  refine lv_iload_n hx hb dX7_act_115 rfl (lv_at hl 2 rfl) ?_
                  refine kr_topi (y := nI t) htt ?_
                  refine lv_dup2_11 hx hb dX7_act_116 rfl rfl ?_
                  refine kr_ialdN hx hb hK hP 3 0 (by decide) (R_3 _ _ _ _) rfl (j := t) (by omega) (by decide) dX7_act_117 ?_
                  refine kr_topi (y := nI n) ((up2_ne (by decide)).trans ((up2_ne (by decide)).trans hn1)) ?_
                  refine lv_iconst (v := 1) hx hb dX7_act_118 (by decide) ?_
                  refine lv_iadd hx hb dX7_act_119 ?_
                  refine kr_topi (y := nI (n + 1)) (nI_add n 1) ?_
                  refine kr_iastN hx hb hK hP hD hS 3 0 (by decide) (fun _ => R_3 _ _ _ _) rfl (j := t) (by omega) (by decide) dX7_act_120 (fun H locs hP hD hS => ?_)
                  refine lv_aload_n hx hb dX7_act_121 rfl (lv_at hl 1 rfl) ?_
                  refine kr_callVi (As := []) (rest := []) ⟨hx, hb, hml, hown, hts⟩ (c_oReset l D gc ad ln (up2 (up2 (up2 iv 1 ((6 * t) + n) act) 2 ((6 * t) + n) a) 3 t (nI (n + 1))) lv) (cwV 0 hts (goodV (fun _ h => tcons h) tw_556 tw_557 tw_558 tw_8 tw_559) rfl rfl rfl (by decide +kernel) ⟨Nat.le_of_ble_eq_true rfl, Nat.le_of_ble_eq_true rfl⟩) (kr_recv hK hP 0 (by decide) (R_0 _ _ _ _) rfl) hK hP hD hS hA rfl hl.1 rfl (Nat.le_of_ble_eq_true rfl) dX7_act_122 ⟨Nat.le_of_ble_eq_true rfl, Nat.le_of_ble_eq_true rfl⟩ (fun H locs hP hD hS => ?_)
                  refine lv_pop hx hb dX7_act_125 rfl ?_
                  refine lv_aload_n hx hb dX7_act_126 rfl (lv_at hl 1 rfl) ?_
                  refine kr_callVv (As := []) (rest := []) ⟨hx, hb, hml, hown, hts⟩ (c_oForget l D gc ad ln (m_oReset (up2 (up2 (up2 iv 1 ((6 * t) + n) act) 2 ((6 * t) + n) a) 3 t (nI (n + 1)))) (n_oReset (up2 (up2 (up2 iv 1 ((6 * t) + n) act) 2 ((6 * t) + n) a) 3 t (nI (n + 1))) lv) ) (cwV 0 hts (goodV (fun _ h => tcons h) tw_662 tw_664 ts_27 tw_8 tw_665) rfl rfl rfl (by decide +kernel) ⟨Nat.le_of_ble_eq_true rfl, Nat.le_of_ble_eq_true rfl⟩) (kr_recv hK hP 0 (by decide) (R_0 _ _ _ _) rfl) hK hP hD hS hA rfl hl.1 rfl (Nat.le_of_ble_eq_true rfl) dX7_act_127 ⟨Nat.le_of_ble_eq_true rfl, Nat.le_of_ble_eq_true rfl⟩ (fun H locs hP hD hS => ?_)
                  refine lv_iload hx hb dX7_act_130 (lv_at hl 0 rfl) ?_
                  refine lv_iconst (v := 1) hx hb dX7_act_132 (by decide) ?_
                  refine lv_iadd hx hb dX7_act_133 ?_
                  refine kr_topi (y := nI (n + 1)) (nI_add n 1) ?_
                  exact kr_iret hx hb hr hlocks hK hP hD hS (by unfold r_oAct; rw [if_pos c_1, if_pos c_2, if_neg c_3, if_pos c_17, if_neg c_18, if_pos c_21, if_pos c_22, if_neg c_23]) (mem4 (by unfold m_oAct; first | (rw [if_pos c_1, if_pos c_2, if_neg c_3, if_pos c_17, if_neg c_18, if_pos c_21, if_pos c_22, if_neg c_23]; done) | simp only [if_pos c_1, if_pos c_2, if_neg c_3, if_pos c_17, if_neg c_18, if_pos c_21, if_pos c_22, if_neg c_23]) (by unfold n_oAct; first | (rw [if_pos c_1, if_pos c_2, if_neg c_3, if_pos c_17, if_neg c_18, if_pos c_21, if_pos c_22, if_neg c_23]; done) | simp only [if_pos c_1, if_pos c_2, if_neg c_3, if_pos c_17, if_neg c_18, if_pos c_21, if_pos c_22, if_neg c_23])) dX7_act_134
                · refine lv_bipush (v := (-2)) hx hb dX7_act_82 (by decide) ?_
                  exact kr_iret hx hb hr hlocks hK hP hD hS (by unfold r_oAct; rw [if_pos c_1, if_pos c_2, if_neg c_3, if_pos c_17, if_neg c_18, if_pos c_21, if_pos c_22, if_pos c_23]) (mem4 (by unfold m_oAct; first | (rw [if_pos c_1, if_pos c_2, if_neg c_3, if_pos c_17, if_neg c_18, if_pos c_21, if_pos c_22, if_pos c_23]; done) | simp only [if_pos c_1, if_pos c_2, if_neg c_3, if_pos c_17, if_neg c_18, if_pos c_21, if_pos c_22, if_pos c_23]) (by unfold n_oAct; first | (rw [if_pos c_1, if_pos c_2, if_neg c_3, if_pos c_17, if_neg c_18, if_pos c_21, if_pos c_22, if_pos c_23]; done) | simp only [if_pos c_1, if_pos c_2, if_neg c_3, if_pos c_17, if_neg c_18, if_pos c_21, if_pos c_22, if_pos c_23])) dX7_act_84
              · refine lv_iconst (v := (-1)) hx hb dX7_act_65 (by decide) ?_
                exact kr_iret hx hb hr hlocks hK hP hD hS (by unfold r_oAct; rw [if_pos c_1, if_pos c_2, if_neg c_3, if_pos c_17, if_neg c_18, if_pos c_21, if_neg c_22]) (mem4 (by unfold m_oAct; first | (rw [if_pos c_1, if_pos c_2, if_neg c_3, if_pos c_17, if_neg c_18, if_pos c_21, if_neg c_22]; done) | simp only [if_pos c_1, if_pos c_2, if_neg c_3, if_pos c_17, if_neg c_18, if_pos c_21, if_neg c_22]) (by unfold n_oAct; first | (rw [if_pos c_1, if_pos c_2, if_neg c_3, if_pos c_17, if_neg c_18, if_pos c_21, if_neg c_22]; done) | simp only [if_pos c_1, if_pos c_2, if_neg c_3, if_pos c_17, if_neg c_18, if_pos c_21, if_neg c_22])) dX7_act_66
            · refine lv_iload_n hx hb dX7_act_45 rfl (lv_at hl 2 rfl) ?_
              refine lv_bipush (v := 9) hx hb dX7_act_46 (by decide) ?_
              refine lv_icmp_eq (tgt := 57) hx hb dX7_act_48 (by decide) (fun c_24 => ?_) (fun c_24 => ?_)
              · refine lv_iload_n hx hb dX7_act_57 rfl (lv_at hl 3 rfl) ?_
                refine lv_iconst (v := 4) hx hb dX7_act_58 (by decide) ?_
                refine kr_callSi (As := [.int a, .int 4]) (rest := []) ⟨hx, hb, hml, hown, hts⟩ (c_oOut l D gc ad ln iv lv a 4) (cwS 2 hts (goodS (fun _ h => tcons h) tw_659 tw_660 tw_8 tw_661) rfl rfl rfl (by decide +kernel) ⟨Nat.le_of_ble_eq_true rfl, Nat.le_of_ble_eq_true rfl⟩) hK hP hD hS hA rfl hl.1 rfl (Nat.le_of_ble_eq_true rfl) dX7_act_59 ⟨Nat.le_of_ble_eq_true rfl, Nat.le_of_ble_eq_true rfl⟩ (fun H locs hP hD hS => ?_)
                refine lv_if_eq (tgt := 67) hx hb dX7_act_62 (by decide) (fun c_25 => ?_) (fun c_25 => ?_)
                · obtain ⟨ht4, htt⟩ := ht c_1
                  obtain ⟨hn1, hn6⟩ := hn ht4
                  refine lv_aload_n hx hb dX7_act_67 rfl (lv_at hl 0 rfl) ?_
                  refine kr_get (C := "MonitorWaysModel") (T := TX7) (N := 27) hx hb hts hin_X7 hown hK hP 0 (by decide) (R_0 _ _ _ _) rfl 3 (by decide) lk_f16 (fun _ h9 => h9) rfl dX7_act_68 ?_
                  refine lv_iload_n hx hb dX7_act_71 rfl (lv_at hl 1 rfl) ?_
                  refine kr_topi (y := nI t) htt ?_
                  refine kr_ialdN hx hb hK hP 3 0 (by decide) (R_3 _ _ _ _) rfl (j := t) (by omega) (by decide) dX7_act_72 ?_
                  refine kr_topi (y := nI n) hn1 ?_
                  refine lv_istore (lv' := [(4, .int (nI n)), (0, .ref (ad 0)), (1, .int tt), (2, .int act), (3, .int a)]) hx hb dX7_act_73 hl (by decide) rfl (fun ls hl => ?_)
                  refine lv_iload hx hb dX7_act_75 (lv_at hl 0 rfl) ?_
                  refine lv_bipush (v := 6) hx hb dX7_act_77 (by decide) ?_
                  refine lv_icmp_ne (tgt := 85) hx hb dX7_act_79 (by decide) (fun c_26 => ?_) (fun c_26 => ?_)
                  · have hn5 : n < 6 := by rcases Nat.lt_or_ge n 6 with h | h; exact h; exact absurd (by rw [show n = 6 by omega]; rfl) c_26
                    refine lv_aload_n hx hb dX7_act_85 rfl (lv_at hl 1 rfl) ?_
                    refine kr_get (C := "MonitorWaysModel") (T := TX7) (N := 27) hx hb hts hin_X7 hown hK hP 0 (by decide) (R_0 _ _ _ _) rfl 1 (by decide) lk_f7 (fun _ h9 => h9) rfl dX7_act_86 ?_
                    refine lv_bipush (v := 6) hx hb dX7_act_89 (by decide) ?_
                    refine lv_iload_n hx hb dX7_act_91 rfl (lv_at hl 2 rfl) ?_
                    refine kr_topi (y := nI t) htt ?_
                    refine lv_imul hx hb dX7_act_92 ?_
                    refine kr_topi (y := nI (6 * t)) (pk_mul 6 t) ?_
                    refine lv_iload hx hb dX7_act_93 (lv_at hl 0 rfl) ?_
                    refine lv_iadd hx hb dX7_act_95 ?_
                    refine kr_topi (y := nI ((6 * t) + n)) (nI_add (6 * t) n) ?_
                    refine lv_iload_n hx hb dX7_act_96 rfl (lv_at hl 3 rfl) ?_
                    refine kr_iastN hx hb hK hP hD hS 1 0 (by decide) (fun _ => R_1 _ _ _ _) rfl (j := ((6 * t) + n)) (by omega) (by decide) dX7_act_97 (fun H locs hP hD hS => ?_)
                    refine lv_aload_n hx hb dX7_act_98 rfl (lv_at hl 1 rfl) ?_
                    refine kr_get (C := "MonitorWaysModel") (T := TX7) (N := 27) hx hb hts hin_X7 hown hK hP 0 (by decide) (R_0 _ _ _ _) rfl 2 (by decide) lk_f13 (fun _ h9 => h9) rfl dX7_act_99 ?_
                    refine lv_bipush (v := 6) hx hb dX7_act_102 (by decide) ?_
                    refine lv_iload_n hx hb dX7_act_104 rfl (lv_at hl 2 rfl) ?_
                    refine kr_topi (y := nI t) htt ?_
                    refine lv_imul hx hb dX7_act_105 ?_
                    refine kr_topi (y := nI (6 * t)) (pk_mul 6 t) ?_
                    refine lv_iload hx hb dX7_act_106 (lv_at hl 0 rfl) ?_
                    refine lv_iadd hx hb dX7_act_108 ?_
                    refine kr_topi (y := nI ((6 * t) + n)) (nI_add (6 * t) n) ?_
                    refine lv_iload_n hx hb dX7_act_109 rfl (lv_at hl 4 rfl) ?_
                    refine kr_iastN hx hb hK hP hD hS 2 0 (by decide) (fun _ => R_2 _ _ _ _) rfl (j := ((6 * t) + n)) (by omega) (by decide) dX7_act_110 (fun H locs hP hD hS => ?_)
                    refine lv_aload_n hx hb dX7_act_111 rfl (lv_at hl 1 rfl) ?_
                    refine kr_get (C := "MonitorWaysModel") (T := TX7) (N := 27) hx hb hts hin_X7 hown hK hP 0 (by decide) (R_0 _ _ _ _) rfl 3 (by decide) lk_f16 (fun _ h9 => h9) rfl dX7_act_112 ?_
                    refine lv_iload_n hx hb dX7_act_115 rfl (lv_at hl 2 rfl) ?_
                    refine kr_topi (y := nI t) htt ?_
                    refine lv_dup2_11 hx hb dX7_act_116 rfl rfl ?_
                    refine kr_ialdN hx hb hK hP 3 0 (by decide) (R_3 _ _ _ _) rfl (j := t) (by omega) (by decide) dX7_act_117 ?_
                    refine kr_topi (y := nI n) ((up2_ne (by decide)).trans ((up2_ne (by decide)).trans hn1)) ?_
                    refine lv_iconst (v := 1) hx hb dX7_act_118 (by decide) ?_
                    refine lv_iadd hx hb dX7_act_119 ?_
                    refine kr_topi (y := nI (n + 1)) (nI_add n 1) ?_
                    refine kr_iastN hx hb hK hP hD hS 3 0 (by decide) (fun _ => R_3 _ _ _ _) rfl (j := t) (by omega) (by decide) dX7_act_120 (fun H locs hP hD hS => ?_)
                    refine lv_aload_n hx hb dX7_act_121 rfl (lv_at hl 1 rfl) ?_
                    refine kr_callVi (As := []) (rest := []) ⟨hx, hb, hml, hown, hts⟩ (c_oReset l D gc ad ln (up2 (up2 (up2 iv 1 ((6 * t) + n) act) 2 ((6 * t) + n) a) 3 t (nI (n + 1))) lv) (cwV 0 hts (goodV (fun _ h => tcons h) tw_556 tw_557 tw_558 tw_8 tw_559) rfl rfl rfl (by decide +kernel) ⟨Nat.le_of_ble_eq_true rfl, Nat.le_of_ble_eq_true rfl⟩) (kr_recv hK hP 0 (by decide) (R_0 _ _ _ _) rfl) hK hP hD hS hA rfl hl.1 rfl (Nat.le_of_ble_eq_true rfl) dX7_act_122 ⟨Nat.le_of_ble_eq_true rfl, Nat.le_of_ble_eq_true rfl⟩ (fun H locs hP hD hS => ?_)
                    refine lv_pop hx hb dX7_act_125 rfl ?_
                    refine lv_aload_n hx hb dX7_act_126 rfl (lv_at hl 1 rfl) ?_
                    refine kr_callVv (As := []) (rest := []) ⟨hx, hb, hml, hown, hts⟩ (c_oForget l D gc ad ln (m_oReset (up2 (up2 (up2 iv 1 ((6 * t) + n) act) 2 ((6 * t) + n) a) 3 t (nI (n + 1)))) (n_oReset (up2 (up2 (up2 iv 1 ((6 * t) + n) act) 2 ((6 * t) + n) a) 3 t (nI (n + 1))) lv) ) (cwV 0 hts (goodV (fun _ h => tcons h) tw_662 tw_664 ts_27 tw_8 tw_665) rfl rfl rfl (by decide +kernel) ⟨Nat.le_of_ble_eq_true rfl, Nat.le_of_ble_eq_true rfl⟩) (kr_recv hK hP 0 (by decide) (R_0 _ _ _ _) rfl) hK hP hD hS hA rfl hl.1 rfl (Nat.le_of_ble_eq_true rfl) dX7_act_127 ⟨Nat.le_of_ble_eq_true rfl, Nat.le_of_ble_eq_true rfl⟩ (fun H locs hP hD hS => ?_)
                    refine lv_iload hx hb dX7_act_130 (lv_at hl 0 rfl) ?_
                    refine lv_iconst (v := 1) hx hb dX7_act_132 (by decide) ?_
                    refine lv_iadd hx hb dX7_act_133 ?_
                    refine kr_topi (y := nI (n + 1)) (nI_add n 1) ?_
                    exact kr_iret hx hb hr hlocks hK hP hD hS (by unfold r_oAct; rw [if_pos c_1, if_pos c_2, if_neg c_3, if_pos c_17, if_neg c_18, if_neg c_21, if_pos c_24, if_pos c_25, if_neg c_26]) (mem4 (by unfold m_oAct; first | (rw [if_pos c_1, if_pos c_2, if_neg c_3, if_pos c_17, if_neg c_18, if_neg c_21, if_pos c_24, if_pos c_25, if_neg c_26]; done) | simp only [if_pos c_1, if_pos c_2, if_neg c_3, if_pos c_17, if_neg c_18, if_neg c_21, if_pos c_24, if_pos c_25, if_neg c_26]) (by unfold n_oAct; first | (rw [if_pos c_1, if_pos c_2, if_neg c_3, if_pos c_17, if_neg c_18, if_neg c_21, if_pos c_24, if_pos c_25, if_neg c_26]; done) | simp only [if_pos c_1, if_pos c_2, if_neg c_3, if_pos c_17, if_neg c_18, if_neg c_21, if_pos c_24, if_pos c_25, if_neg c_26])) dX7_act_134
                  · refine lv_bipush (v := (-2)) hx hb dX7_act_82 (by decide) ?_
                    exact kr_iret hx hb hr hlocks hK hP hD hS (by unfold r_oAct; rw [if_pos c_1, if_pos c_2, if_neg c_3, if_pos c_17, if_neg c_18, if_neg c_21, if_pos c_24, if_pos c_25, if_pos c_26]) (mem4 (by unfold m_oAct; first | (rw [if_pos c_1, if_pos c_2, if_neg c_3, if_pos c_17, if_neg c_18, if_neg c_21, if_pos c_24, if_pos c_25, if_pos c_26]; done) | simp only [if_pos c_1, if_pos c_2, if_neg c_3, if_pos c_17, if_neg c_18, if_neg c_21, if_pos c_24, if_pos c_25, if_pos c_26]) (by unfold n_oAct; first | (rw [if_pos c_1, if_pos c_2, if_neg c_3, if_pos c_17, if_neg c_18, if_neg c_21, if_pos c_24, if_pos c_25, if_pos c_26]; done) | simp only [if_pos c_1, if_pos c_2, if_neg c_3, if_pos c_17, if_neg c_18, if_neg c_21, if_pos c_24, if_pos c_25, if_pos c_26])) dX7_act_84
                · refine lv_iconst (v := (-1)) hx hb dX7_act_65 (by decide) ?_
                  exact kr_iret hx hb hr hlocks hK hP hD hS (by unfold r_oAct; rw [if_pos c_1, if_pos c_2, if_neg c_3, if_pos c_17, if_neg c_18, if_neg c_21, if_pos c_24, if_neg c_25]) (mem4 (by unfold m_oAct; first | (rw [if_pos c_1, if_pos c_2, if_neg c_3, if_pos c_17, if_neg c_18, if_neg c_21, if_pos c_24, if_neg c_25]; done) | simp only [if_pos c_1, if_pos c_2, if_neg c_3, if_pos c_17, if_neg c_18, if_neg c_21, if_pos c_24, if_neg c_25]) (by unfold n_oAct; first | (rw [if_pos c_1, if_pos c_2, if_neg c_3, if_pos c_17, if_neg c_18, if_neg c_21, if_pos c_24, if_neg c_25]; done) | simp only [if_pos c_1, if_pos c_2, if_neg c_3, if_pos c_17, if_neg c_18, if_neg c_21, if_pos c_24, if_neg c_25])) dX7_act_66
              · refine lv_iload_n hx hb dX7_act_51 rfl (lv_at hl 2 rfl) ?_
                refine lv_bipush (v := 11) hx hb dX7_act_52 (by decide) ?_
                refine lv_icmp_ne (tgt := 67) hx hb dX7_act_54 (by decide) (fun c_27 => ?_) (fun c_27 => ?_)
                · obtain ⟨ht4, htt⟩ := ht c_1
                  obtain ⟨hn1, hn6⟩ := hn ht4
                  refine lv_aload_n hx hb dX7_act_67 rfl (lv_at hl 0 rfl) ?_
                  refine kr_get (C := "MonitorWaysModel") (T := TX7) (N := 27) hx hb hts hin_X7 hown hK hP 0 (by decide) (R_0 _ _ _ _) rfl 3 (by decide) lk_f16 (fun _ h9 => h9) rfl dX7_act_68 ?_
                  refine lv_iload_n hx hb dX7_act_71 rfl (lv_at hl 1 rfl) ?_
                  refine kr_topi (y := nI t) htt ?_
                  refine kr_ialdN hx hb hK hP 3 0 (by decide) (R_3 _ _ _ _) rfl (j := t) (by omega) (by decide) dX7_act_72 ?_
                  refine kr_topi (y := nI n) hn1 ?_
                  refine lv_istore (lv' := [(4, .int (nI n)), (0, .ref (ad 0)), (1, .int tt), (2, .int act), (3, .int a)]) hx hb dX7_act_73 hl (by decide) rfl (fun ls hl => ?_)
                  refine lv_iload hx hb dX7_act_75 (lv_at hl 0 rfl) ?_
                  refine lv_bipush (v := 6) hx hb dX7_act_77 (by decide) ?_
                  refine lv_icmp_ne (tgt := 85) hx hb dX7_act_79 (by decide) (fun c_28 => ?_) (fun c_28 => ?_)
                  · have hn5 : n < 6 := by rcases Nat.lt_or_ge n 6 with h | h; exact h; exact absurd (by rw [show n = 6 by omega]; rfl) c_28
                    refine lv_aload_n hx hb dX7_act_85 rfl (lv_at hl 1 rfl) ?_
                    refine kr_get (C := "MonitorWaysModel") (T := TX7) (N := 27) hx hb hts hin_X7 hown hK hP 0 (by decide) (R_0 _ _ _ _) rfl 1 (by decide) lk_f7 (fun _ h9 => h9) rfl dX7_act_86 ?_
                    refine lv_bipush (v := 6) hx hb dX7_act_89 (by decide) ?_
                    refine lv_iload_n hx hb dX7_act_91 rfl (lv_at hl 2 rfl) ?_
                    refine kr_topi (y := nI t) htt ?_
                    refine lv_imul hx hb dX7_act_92 ?_
                    refine kr_topi (y := nI (6 * t)) (pk_mul 6 t) ?_
                    refine lv_iload hx hb dX7_act_93 (lv_at hl 0 rfl) ?_
                    refine lv_iadd hx hb dX7_act_95 ?_
                    refine kr_topi (y := nI ((6 * t) + n)) (nI_add (6 * t) n) ?_
                    refine lv_iload_n hx hb dX7_act_96 rfl (lv_at hl 3 rfl) ?_
                    refine kr_iastN hx hb hK hP hD hS 1 0 (by decide) (fun _ => R_1 _ _ _ _) rfl (j := ((6 * t) + n)) (by omega) (by decide) dX7_act_97 (fun H locs hP hD hS => ?_)
                    refine lv_aload_n hx hb dX7_act_98 rfl (lv_at hl 1 rfl) ?_
                    refine kr_get (C := "MonitorWaysModel") (T := TX7) (N := 27) hx hb hts hin_X7 hown hK hP 0 (by decide) (R_0 _ _ _ _) rfl 2 (by decide) lk_f13 (fun _ h9 => h9) rfl dX7_act_99 ?_
                    refine lv_bipush (v := 6) hx hb dX7_act_102 (by decide) ?_
                    refine lv_iload_n hx hb dX7_act_104 rfl (lv_at hl 2 rfl) ?_
                    refine kr_topi (y := nI t) htt ?_
                    refine lv_imul hx hb dX7_act_105 ?_
                    refine kr_topi (y := nI (6 * t)) (pk_mul 6 t) ?_
                    refine lv_iload hx hb dX7_act_106 (lv_at hl 0 rfl) ?_
                    refine lv_iadd hx hb dX7_act_108 ?_
                    refine kr_topi (y := nI ((6 * t) + n)) (nI_add (6 * t) n) ?_
                    refine lv_iload_n hx hb dX7_act_109 rfl (lv_at hl 4 rfl) ?_
                    refine kr_iastN hx hb hK hP hD hS 2 0 (by decide) (fun _ => R_2 _ _ _ _) rfl (j := ((6 * t) + n)) (by omega) (by decide) dX7_act_110 (fun H locs hP hD hS => ?_)
                    refine lv_aload_n hx hb dX7_act_111 rfl (lv_at hl 1 rfl) ?_
                    refine kr_get (C := "MonitorWaysModel") (T := TX7) (N := 27) hx hb hts hin_X7 hown hK hP 0 (by decide) (R_0 _ _ _ _) rfl 3 (by decide) lk_f16 (fun _ h9 => h9) rfl dX7_act_112 ?_
                    refine lv_iload_n hx hb dX7_act_115 rfl (lv_at hl 2 rfl) ?_
                    refine kr_topi (y := nI t) htt ?_
                    refine lv_dup2_11 hx hb dX7_act_116 rfl rfl ?_
                    refine kr_ialdN hx hb hK hP 3 0 (by decide) (R_3 _ _ _ _) rfl (j := t) (by omega) (by decide) dX7_act_117 ?_
                    refine kr_topi (y := nI n) ((up2_ne (by decide)).trans ((up2_ne (by decide)).trans hn1)) ?_
                    refine lv_iconst (v := 1) hx hb dX7_act_118 (by decide) ?_
                    refine lv_iadd hx hb dX7_act_119 ?_
                    refine kr_topi (y := nI (n + 1)) (nI_add n 1) ?_
                    refine kr_iastN hx hb hK hP hD hS 3 0 (by decide) (fun _ => R_3 _ _ _ _) rfl (j := t) (by omega) (by decide) dX7_act_120 (fun H locs hP hD hS => ?_)
                    refine lv_aload_n hx hb dX7_act_121 rfl (lv_at hl 1 rfl) ?_
                    refine kr_callVi (As := []) (rest := []) ⟨hx, hb, hml, hown, hts⟩ (c_oReset l D gc ad ln (up2 (up2 (up2 iv 1 ((6 * t) + n) act) 2 ((6 * t) + n) a) 3 t (nI (n + 1))) lv) (cwV 0 hts (goodV (fun _ h => tcons h) tw_556 tw_557 tw_558 tw_8 tw_559) rfl rfl rfl (by decide +kernel) ⟨Nat.le_of_ble_eq_true rfl, Nat.le_of_ble_eq_true rfl⟩) (kr_recv hK hP 0 (by decide) (R_0 _ _ _ _) rfl) hK hP hD hS hA rfl hl.1 rfl (Nat.le_of_ble_eq_true rfl) dX7_act_122 ⟨Nat.le_of_ble_eq_true rfl, Nat.le_of_ble_eq_true rfl⟩ (fun H locs hP hD hS => ?_)
                    refine lv_pop hx hb dX7_act_125 rfl ?_
                    refine lv_aload_n hx hb dX7_act_126 rfl (lv_at hl 1 rfl) ?_
                    refine kr_callVv (As := []) (rest := []) ⟨hx, hb, hml, hown, hts⟩ (c_oForget l D gc ad ln (m_oReset (up2 (up2 (up2 iv 1 ((6 * t) + n) act) 2 ((6 * t) + n) a) 3 t (nI (n + 1)))) (n_oReset (up2 (up2 (up2 iv 1 ((6 * t) + n) act) 2 ((6 * t) + n) a) 3 t (nI (n + 1))) lv) ) (cwV 0 hts (goodV (fun _ h => tcons h) tw_662 tw_664 ts_27 tw_8 tw_665) rfl rfl rfl (by decide +kernel) ⟨Nat.le_of_ble_eq_true rfl, Nat.le_of_ble_eq_true rfl⟩) (kr_recv hK hP 0 (by decide) (R_0 _ _ _ _) rfl) hK hP hD hS hA rfl hl.1 rfl (Nat.le_of_ble_eq_true rfl) dX7_act_127 ⟨Nat.le_of_ble_eq_true rfl, Nat.le_of_ble_eq_true rfl⟩ (fun H locs hP hD hS => ?_)
                    refine lv_iload hx hb dX7_act_130 (lv_at hl 0 rfl) ?_
                    refine lv_iconst (v := 1) hx hb dX7_act_132 (by decide) ?_
                    refine lv_iadd hx hb dX7_act_133 ?_
                    refine kr_topi (y := nI (n + 1)) (nI_add n 1) ?_
                    exact kr_iret hx hb hr hlocks hK hP hD hS (by unfold r_oAct; rw [if_pos c_1, if_pos c_2, if_neg c_3, if_pos c_17, if_neg c_18, if_neg c_21, if_neg c_24, if_neg c_27, if_neg c_28]) (mem4 (by unfold m_oAct; first | (rw [if_pos c_1, if_pos c_2, if_neg c_3, if_pos c_17, if_neg c_18, if_neg c_21, if_neg c_24, if_neg c_27, if_neg c_28]; done) | simp only [if_pos c_1, if_pos c_2, if_neg c_3, if_pos c_17, if_neg c_18, if_neg c_21, if_neg c_24, if_neg c_27, if_neg c_28]) (by unfold n_oAct; first | (rw [if_pos c_1, if_pos c_2, if_neg c_3, if_pos c_17, if_neg c_18, if_neg c_21, if_neg c_24, if_neg c_27, if_neg c_28]; done) | simp only [if_pos c_1, if_pos c_2, if_neg c_3, if_pos c_17, if_neg c_18, if_neg c_21, if_neg c_24, if_neg c_27, if_neg c_28])) dX7_act_134
                  · refine lv_bipush (v := (-2)) hx hb dX7_act_82 (by decide) ?_
                    exact kr_iret hx hb hr hlocks hK hP hD hS (by unfold r_oAct; rw [if_pos c_1, if_pos c_2, if_neg c_3, if_pos c_17, if_neg c_18, if_neg c_21, if_neg c_24, if_neg c_27, if_pos c_28]) (mem4 (by unfold m_oAct; first | (rw [if_pos c_1, if_pos c_2, if_neg c_3, if_pos c_17, if_neg c_18, if_neg c_21, if_neg c_24, if_neg c_27, if_pos c_28]; done) | simp only [if_pos c_1, if_pos c_2, if_neg c_3, if_pos c_17, if_neg c_18, if_neg c_21, if_neg c_24, if_neg c_27, if_pos c_28]) (by unfold n_oAct; first | (rw [if_pos c_1, if_pos c_2, if_neg c_3, if_pos c_17, if_neg c_18, if_neg c_21, if_neg c_24, if_neg c_27, if_pos c_28]; done) | simp only [if_pos c_1, if_pos c_2, if_neg c_3, if_pos c_17, if_neg c_18, if_neg c_21, if_neg c_24, if_neg c_27, if_pos c_28])) dX7_act_84
                · refine lv_iload_n hx hb dX7_act_57 rfl (lv_at hl 3 rfl) ?_
                  refine lv_iconst (v := 4) hx hb dX7_act_58 (by decide) ?_
                  refine kr_callSi (As := [.int a, .int 4]) (rest := []) ⟨hx, hb, hml, hown, hts⟩ (c_oOut l D gc ad ln iv lv a 4) (cwS 2 hts (goodS (fun _ h => tcons h) tw_659 tw_660 tw_8 tw_661) rfl rfl rfl (by decide +kernel) ⟨Nat.le_of_ble_eq_true rfl, Nat.le_of_ble_eq_true rfl⟩) hK hP hD hS hA rfl hl.1 rfl (Nat.le_of_ble_eq_true rfl) dX7_act_59 ⟨Nat.le_of_ble_eq_true rfl, Nat.le_of_ble_eq_true rfl⟩ (fun H locs hP hD hS => ?_)
                  refine lv_if_eq (tgt := 67) hx hb dX7_act_62 (by decide) (fun c_29 => ?_) (fun c_29 => ?_)
                  · obtain ⟨ht4, htt⟩ := ht c_1
                    obtain ⟨hn1, hn6⟩ := hn ht4
                    refine lv_aload_n hx hb dX7_act_67 rfl (lv_at hl 0 rfl) ?_
                    refine kr_get (C := "MonitorWaysModel") (T := TX7) (N := 27) hx hb hts hin_X7 hown hK hP 0 (by decide) (R_0 _ _ _ _) rfl 3 (by decide) lk_f16 (fun _ h9 => h9) rfl dX7_act_68 ?_
                    refine lv_iload_n hx hb dX7_act_71 rfl (lv_at hl 1 rfl) ?_
                    refine kr_topi (y := nI t) htt ?_
                    refine kr_ialdN hx hb hK hP 3 0 (by decide) (R_3 _ _ _ _) rfl (j := t) (by omega) (by decide) dX7_act_72 ?_
                    refine kr_topi (y := nI n) hn1 ?_
                    refine lv_istore (lv' := [(4, .int (nI n)), (0, .ref (ad 0)), (1, .int tt), (2, .int act), (3, .int a)]) hx hb dX7_act_73 hl (by decide) rfl (fun ls hl => ?_)
                    refine lv_iload hx hb dX7_act_75 (lv_at hl 0 rfl) ?_
                    refine lv_bipush (v := 6) hx hb dX7_act_77 (by decide) ?_
                    refine lv_icmp_ne (tgt := 85) hx hb dX7_act_79 (by decide) (fun c_30 => ?_) (fun c_30 => ?_)
                    · have hn5 : n < 6 := by rcases Nat.lt_or_ge n 6 with h | h; exact h; exact absurd (by rw [show n = 6 by omega]; rfl) c_30
                      refine lv_aload_n hx hb dX7_act_85 rfl (lv_at hl 1 rfl) ?_
                      refine kr_get (C := "MonitorWaysModel") (T := TX7) (N := 27) hx hb hts hin_X7 hown hK hP 0 (by decide) (R_0 _ _ _ _) rfl 1 (by decide) lk_f7 (fun _ h9 => h9) rfl dX7_act_86 ?_
                      refine lv_bipush (v := 6) hx hb dX7_act_89 (by decide) ?_
                      refine lv_iload_n hx hb dX7_act_91 rfl (lv_at hl 2 rfl) ?_
                      refine kr_topi (y := nI t) htt ?_
                      refine lv_imul hx hb dX7_act_92 ?_
                      refine kr_topi (y := nI (6 * t)) (pk_mul 6 t) ?_
                      refine lv_iload hx hb dX7_act_93 (lv_at hl 0 rfl) ?_
                      refine lv_iadd hx hb dX7_act_95 ?_
                      refine kr_topi (y := nI ((6 * t) + n)) (nI_add (6 * t) n) ?_
                      refine lv_iload_n hx hb dX7_act_96 rfl (lv_at hl 3 rfl) ?_
                      refine kr_iastN hx hb hK hP hD hS 1 0 (by decide) (fun _ => R_1 _ _ _ _) rfl (j := ((6 * t) + n)) (by omega) (by decide) dX7_act_97 (fun H locs hP hD hS => ?_)
                      refine lv_aload_n hx hb dX7_act_98 rfl (lv_at hl 1 rfl) ?_
                      refine kr_get (C := "MonitorWaysModel") (T := TX7) (N := 27) hx hb hts hin_X7 hown hK hP 0 (by decide) (R_0 _ _ _ _) rfl 2 (by decide) lk_f13 (fun _ h9 => h9) rfl dX7_act_99 ?_
                      refine lv_bipush (v := 6) hx hb dX7_act_102 (by decide) ?_
                      refine lv_iload_n hx hb dX7_act_104 rfl (lv_at hl 2 rfl) ?_
                      refine kr_topi (y := nI t) htt ?_
                      refine lv_imul hx hb dX7_act_105 ?_
                      refine kr_topi (y := nI (6 * t)) (pk_mul 6 t) ?_
                      refine lv_iload hx hb dX7_act_106 (lv_at hl 0 rfl) ?_
                      refine lv_iadd hx hb dX7_act_108 ?_
                      refine kr_topi (y := nI ((6 * t) + n)) (nI_add (6 * t) n) ?_
                      refine lv_iload_n hx hb dX7_act_109 rfl (lv_at hl 4 rfl) ?_
                      refine kr_iastN hx hb hK hP hD hS 2 0 (by decide) (fun _ => R_2 _ _ _ _) rfl (j := ((6 * t) + n)) (by omega) (by decide) dX7_act_110 (fun H locs hP hD hS => ?_)
                      refine lv_aload_n hx hb dX7_act_111 rfl (lv_at hl 1 rfl) ?_
                      refine kr_get (C := "MonitorWaysModel") (T := TX7) (N := 27) hx hb hts hin_X7 hown hK hP 0 (by decide) (R_0 _ _ _ _) rfl 3 (by decide) lk_f16 (fun _ h9 => h9) rfl dX7_act_112 ?_
                      refine lv_iload_n hx hb dX7_act_115 rfl (lv_at hl 2 rfl) ?_
                      refine kr_topi (y := nI t) htt ?_
                      refine lv_dup2_11 hx hb dX7_act_116 rfl rfl ?_
                      refine kr_ialdN hx hb hK hP 3 0 (by decide) (R_3 _ _ _ _) rfl (j := t) (by omega) (by decide) dX7_act_117 ?_
                      refine kr_topi (y := nI n) ((up2_ne (by decide)).trans ((up2_ne (by decide)).trans hn1)) ?_
                      refine lv_iconst (v := 1) hx hb dX7_act_118 (by decide) ?_
                      refine lv_iadd hx hb dX7_act_119 ?_
                      refine kr_topi (y := nI (n + 1)) (nI_add n 1) ?_
                      refine kr_iastN hx hb hK hP hD hS 3 0 (by decide) (fun _ => R_3 _ _ _ _) rfl (j := t) (by omega) (by decide) dX7_act_120 (fun H locs hP hD hS => ?_)
                      refine lv_aload_n hx hb dX7_act_121 rfl (lv_at hl 1 rfl) ?_
                      refine kr_callVi (As := []) (rest := []) ⟨hx, hb, hml, hown, hts⟩ (c_oReset l D gc ad ln (up2 (up2 (up2 iv 1 ((6 * t) + n) act) 2 ((6 * t) + n) a) 3 t (nI (n + 1))) lv) (cwV 0 hts (goodV (fun _ h => tcons h) tw_556 tw_557 tw_558 tw_8 tw_559) rfl rfl rfl (by decide +kernel) ⟨Nat.le_of_ble_eq_true rfl, Nat.le_of_ble_eq_true rfl⟩) (kr_recv hK hP 0 (by decide) (R_0 _ _ _ _) rfl) hK hP hD hS hA rfl hl.1 rfl (Nat.le_of_ble_eq_true rfl) dX7_act_122 ⟨Nat.le_of_ble_eq_true rfl, Nat.le_of_ble_eq_true rfl⟩ (fun H locs hP hD hS => ?_)
                      refine lv_pop hx hb dX7_act_125 rfl ?_
                      refine lv_aload_n hx hb dX7_act_126 rfl (lv_at hl 1 rfl) ?_
                      refine kr_callVv (As := []) (rest := []) ⟨hx, hb, hml, hown, hts⟩ (c_oForget l D gc ad ln (m_oReset (up2 (up2 (up2 iv 1 ((6 * t) + n) act) 2 ((6 * t) + n) a) 3 t (nI (n + 1)))) (n_oReset (up2 (up2 (up2 iv 1 ((6 * t) + n) act) 2 ((6 * t) + n) a) 3 t (nI (n + 1))) lv) ) (cwV 0 hts (goodV (fun _ h => tcons h) tw_662 tw_664 ts_27 tw_8 tw_665) rfl rfl rfl (by decide +kernel) ⟨Nat.le_of_ble_eq_true rfl, Nat.le_of_ble_eq_true rfl⟩) (kr_recv hK hP 0 (by decide) (R_0 _ _ _ _) rfl) hK hP hD hS hA rfl hl.1 rfl (Nat.le_of_ble_eq_true rfl) dX7_act_127 ⟨Nat.le_of_ble_eq_true rfl, Nat.le_of_ble_eq_true rfl⟩ (fun H locs hP hD hS => ?_)
                      refine lv_iload hx hb dX7_act_130 (lv_at hl 0 rfl) ?_
                      refine lv_iconst (v := 1) hx hb dX7_act_132 (by decide) ?_
                      refine lv_iadd hx hb dX7_act_133 ?_
                      refine kr_topi (y := nI (n + 1)) (nI_add n 1) ?_
                      exact kr_iret hx hb hr hlocks hK hP hD hS (by unfold r_oAct; rw [if_pos c_1, if_pos c_2, if_neg c_3, if_pos c_17, if_neg c_18, if_neg c_21, if_neg c_24, if_pos c_27, if_pos c_29, if_neg c_30]) (mem4 (by unfold m_oAct; first | (rw [if_pos c_1, if_pos c_2, if_neg c_3, if_pos c_17, if_neg c_18, if_neg c_21, if_neg c_24, if_pos c_27, if_pos c_29, if_neg c_30]; done) | simp only [if_pos c_1, if_pos c_2, if_neg c_3, if_pos c_17, if_neg c_18, if_neg c_21, if_neg c_24, if_pos c_27, if_pos c_29, if_neg c_30]) (by unfold n_oAct; first | (rw [if_pos c_1, if_pos c_2, if_neg c_3, if_pos c_17, if_neg c_18, if_neg c_21, if_neg c_24, if_pos c_27, if_pos c_29, if_neg c_30]; done) | simp only [if_pos c_1, if_pos c_2, if_neg c_3, if_pos c_17, if_neg c_18, if_neg c_21, if_neg c_24, if_pos c_27, if_pos c_29, if_neg c_30])) dX7_act_134
                    · refine lv_bipush (v := (-2)) hx hb dX7_act_82 (by decide) ?_
                      exact kr_iret hx hb hr hlocks hK hP hD hS (by unfold r_oAct; rw [if_pos c_1, if_pos c_2, if_neg c_3, if_pos c_17, if_neg c_18, if_neg c_21, if_neg c_24, if_pos c_27, if_pos c_29, if_pos c_30]) (mem4 (by unfold m_oAct; first | (rw [if_pos c_1, if_pos c_2, if_neg c_3, if_pos c_17, if_neg c_18, if_neg c_21, if_neg c_24, if_pos c_27, if_pos c_29, if_pos c_30]; done) | simp only [if_pos c_1, if_pos c_2, if_neg c_3, if_pos c_17, if_neg c_18, if_neg c_21, if_neg c_24, if_pos c_27, if_pos c_29, if_pos c_30]) (by unfold n_oAct; first | (rw [if_pos c_1, if_pos c_2, if_neg c_3, if_pos c_17, if_neg c_18, if_neg c_21, if_neg c_24, if_pos c_27, if_pos c_29, if_pos c_30]; done) | simp only [if_pos c_1, if_pos c_2, if_neg c_3, if_pos c_17, if_neg c_18, if_neg c_21, if_neg c_24, if_pos c_27, if_pos c_29, if_pos c_30])) dX7_act_84
                  · refine lv_iconst (v := (-1)) hx hb dX7_act_65 (by decide) ?_
                    exact kr_iret hx hb hr hlocks hK hP hD hS (by unfold r_oAct; rw [if_pos c_1, if_pos c_2, if_neg c_3, if_pos c_17, if_neg c_18, if_neg c_21, if_neg c_24, if_pos c_27, if_neg c_29]) (mem4 (by unfold m_oAct; first | (rw [if_pos c_1, if_pos c_2, if_neg c_3, if_pos c_17, if_neg c_18, if_neg c_21, if_neg c_24, if_pos c_27, if_neg c_29]; done) | simp only [if_pos c_1, if_pos c_2, if_neg c_3, if_pos c_17, if_neg c_18, if_neg c_21, if_neg c_24, if_pos c_27, if_neg c_29]) (by unfold n_oAct; first | (rw [if_pos c_1, if_pos c_2, if_neg c_3, if_pos c_17, if_neg c_18, if_neg c_21, if_neg c_24, if_pos c_27, if_neg c_29]; done) | simp only [if_pos c_1, if_pos c_2, if_neg c_3, if_pos c_17, if_neg c_18, if_neg c_21, if_neg c_24, if_pos c_27, if_neg c_29])) dX7_act_66
    · refine lv_iconst (v := (-1)) hx hb dX7_act_17 (by decide) ?_
      exact kr_iret hx hb hr hlocks hK hP hD hS (by unfold r_oAct; rw [if_pos c_1, if_neg c_2]) (mem4 (by unfold m_oAct; first | (rw [if_pos c_1, if_neg c_2]; done) | simp only [if_pos c_1, if_neg c_2]) (by unfold n_oAct; first | (rw [if_pos c_1, if_neg c_2]; done) | simp only [if_pos c_1, if_neg c_2])) dX7_act_18
