def m_mSetFree (iv : Nat → Nat → Int32) (mi m : Nat) : Nat → Nat → Int32 := (up2 (up2 iv (28 + 2 * mi + m) 0 (-1)) (28 + 2 * mi + m) 1 0)
set_option maxHeartbeats 4000000 in
set_option maxRecDepth 100000 in
theorem c_mSetFree (l : Launch) (D : va_G) (gc : Nat → ClassId) (ad ln : Nat → Nat) (iv : Nat → Nat → Int32) (lv : Nat → Nat → Int64) (mi m : Nat) (hmi : mi < 2) (hm : m < 2) : kMv l yX1_setFree wX1_setFree ({ frames := 0, cells := 0, slots := 0, locals := 0 }) D vwCl (kT gc) 42 (kE gc) [.ref (ad (28 + 2 * mi + m))] (ad, ln, iv, lv) (ad, ln, m_mSetFree iv mi m, lv) := by
  refine kv_start (cc := cX1_setFree) (maxL := 1) (by decide) rfl (Nat.le_of_ble_eq_true rfl) ?_
  intro p9 e9 s m9 below meth c9 A ls hx hb hr hts hown hlocks hml hA hK hP hD hS hl
  have hl : lv_has ls 1 [(0, .ref (ad (28 + 2 * mi + m)))] := hl
  have hown : s.vm.findClass "MonitorWays$Monitor" = some m9.cls := hown
  have hin_X1 : ∀ w ∈ u_ws "MonitorWays$Monitor" TX1 4, w ∈ wX1_setFree := fun w h => tcons (inX1 w h)
  have lk_f22 := hts _ (tcons tw_92)
  have lk_f25 := hts _ (tcons tw_95)
  refine lv_aload_n hx hb dX1_setFree_0 rfl (lv_at hl 0 rfl) ?_
  refine lv_iconst (v := (-1)) hx hb dX1_setFree_1 (by decide) ?_
  refine kr_put (C := "MonitorWays$Monitor") (T := TX1) (N := 4) hx hb hts hin_X1 tyX1 ok_tyX1 ok_nX1 hown hK hP hD hS (28 + 2 * mi + m) (by omega) (fun _ => E_mon (mi := mi) (m := m) hmi hm _ _ _ _) rfl 0 (by decide) lk_f22 (fun _ h9 => h9) rfl rfl rfl rfl (fun _ => Nat.le_of_ble_eq_true rfl) (fun _ => rfl) dX1_setFree_2 (fun H locs hP hD hS => ?_)
  refine lv_aload_n hx hb dX1_setFree_5 rfl (lv_at hl 0 rfl) ?_
  refine lv_iconst (v := 0) hx hb dX1_setFree_6 (by decide) ?_
  refine kr_put (C := "MonitorWays$Monitor") (T := TX1) (N := 4) hx hb hts hin_X1 tyX1 ok_tyX1 ok_nX1 hown hK hP hD hS (28 + 2 * mi + m) (by omega) (fun _ => E_mon (mi := mi) (m := m) hmi hm _ _ _ _) rfl 1 (by decide) lk_f25 (fun _ h9 => h9) rfl rfl rfl rfl (fun _ => Nat.le_of_ble_eq_true rfl) (fun _ => rfl) dX1_setFree_7 (fun H locs hP hD hS => ?_)
  exact kr_vret hx hb hr hlocks hK hP hD hS rfl dX1_setFree_10
def m_mBegin (iv : Nat → Nat → Int32) (mi m : Nat) : Nat → Nat → Int32 := (up2 (m_mSetFree iv mi m) (28 + 2 * mi + m) 2 0)
set_option maxHeartbeats 4000000 in
set_option maxRecDepth 100000 in
theorem c_mBegin (l : Launch) (D : va_G) (gc : Nat → ClassId) (ad ln : Nat → Nat) (iv : Nat → Nat → Int32) (lv : Nat → Nat → Int64) (mi m : Nat) (hmi : mi < 2) (hm : m < 2) : kMv l yX1_begin wX1_begin ({ frames := 1, cells := 0, slots := 0, locals := 20 }) D vwCl (kT gc) 42 (kE gc) [.ref (ad (28 + 2 * mi + m))] (ad, ln, iv, lv) (ad, ln, m_mBegin iv mi m, lv) := by
  refine kv_start (cc := cX1_begin) (maxL := 1) (by decide) rfl (Nat.le_of_ble_eq_true rfl) ?_
  intro p9 e9 s m9 below meth c9 A ls hx hb hr hts hown hlocks hml hA hK hP hD hS hl
  have hl : lv_has ls 1 [(0, .ref (ad (28 + 2 * mi + m)))] := hl
  have hown : s.vm.findClass "MonitorWays$Monitor" = some m9.cls := hown
  have hin_X1 : ∀ w ∈ u_ws "MonitorWays$Monitor" TX1 4, w ∈ wX1_begin := fun w h => tcons (inX1 w h)
  have lk_f18 := hts _ (tcons tw_98)
  refine lv_aload_n hx hb dX1_begin_0 rfl (lv_at hl 0 rfl) ?_
  refine kr_callVv (As := []) (rest := []) ⟨hx, hb, hml, hown, hts⟩ (c_mSetFree l D gc ad ln iv lv mi m hmi hm) (cwV 0 hts (goodV (fun _ h => tcons h) tw_122 tw_123 tw_124 tw_5 tw_125) rfl rfl rfl (by decide +kernel) ⟨Nat.le_of_ble_eq_true rfl, Nat.le_of_ble_eq_true rfl⟩) (kr_recv hK hP (28 + 2 * mi + m) (by omega) (E_mon (mi := mi) (m := m) hmi hm _ _ _ _) rfl) hK hP hD hS hA rfl hl.1 rfl (Nat.le_of_ble_eq_true rfl) dX1_begin_1 ⟨Nat.le_of_ble_eq_true rfl, Nat.le_of_ble_eq_true rfl⟩ (fun H locs hP hD hS => ?_)
  refine lv_aload_n hx hb dX1_begin_4 rfl (lv_at hl 0 rfl) ?_
  refine lv_iconst (v := 0) hx hb dX1_begin_5 (by decide) ?_
  refine kr_put (C := "MonitorWays$Monitor") (T := TX1) (N := 4) hx hb hts hin_X1 tyX1 ok_tyX1 ok_nX1 hown hK hP hD hS (28 + 2 * mi + m) (by omega) (fun _ => E_mon (mi := mi) (m := m) hmi hm _ _ _ _) rfl 2 (by decide) lk_f18 (fun _ h9 => h9) rfl rfl rfl rfl (fun _ => Nat.le_of_ble_eq_true rfl) (fun _ => rfl) dX1_begin_6 (fun H locs hP hD hS => ?_)
  exact kr_vret hx hb hr hlocks hK hP hD hS rfl dX1_begin_9
def r_mIsFree (iv : Nat → Nat → Int32) (mi m : Nat) : Int32 := (if iv (28 + 2 * mi + m) 0 = (-1) then (1 : Int32) else 0)
theorem nb_mIsFree (iv : Nat → Nat → Int32) (mi m : Nat) : narrow .boolean (.int (r_mIsFree iv mi m)) = .int (r_mIsFree iv mi m) := by
  unfold r_mIsFree; repeat' split
  all_goals rfl
set_option maxHeartbeats 4000000 in
set_option maxRecDepth 100000 in
theorem c_mIsFree (l : Launch) (D : va_G) (gc : Nat → ClassId) (ad ln : Nat → Nat) (iv : Nat → Nat → Int32) (lv : Nat → Nat → Int64) (mi m : Nat) (hmi : mi < 2) (hm : m < 2) : kMi l yX1_isFree wX1_isFree ({ frames := 0, cells := 0, slots := 0, locals := 0 }) D vwCl (kT gc) 42 (kE gc) [.ref (ad (28 + 2 * mi + m))] (ad, ln, iv, lv) (ad, ln, iv, lv) (r_mIsFree iv mi m) := by
  refine ki_start (cc := cX1_isFree) (maxL := 1) (ret := (some .boolean)) (by decide) rfl (Nat.le_of_ble_eq_true rfl) ?_
  intro p9 e9 s m9 below meth c9 A ls hx hb hr hts hown hlocks hml hA hK hP hD hS hl
  have hl : lv_has ls 1 [(0, .ref (ad (28 + 2 * mi + m)))] := hl
  have hown : s.vm.findClass "MonitorWays$Monitor" = some m9.cls := hown
  have hin_X1 : ∀ w ∈ u_ws "MonitorWays$Monitor" TX1 4, w ∈ wX1_isFree := fun w h => tcons (inX1 w h)
  have lk_f22 := hts _ (tcons tw_92)
  refine lv_aload_n hx hb dX1_isFree_0 rfl (lv_at hl 0 rfl) ?_
  refine kr_get (C := "MonitorWays$Monitor") (T := TX1) (N := 4) hx hb hts hin_X1 hown hK hP (28 + 2 * mi + m) (by omega) (E_mon (mi := mi) (m := m) hmi hm _ _ _ _) rfl 0 (by decide) lk_f22 (fun _ h9 => h9) rfl dX1_isFree_1 ?_
  refine lv_iconst (v := (-1)) hx hb dX1_isFree_4 (by decide) ?_
  refine kr_tern (M := 13) (cnd := iv (28 + 2 * mi + m) 0 = (-1)) (a := 1) (b := 0) (rest := []) (fun ja jb => ?_) ?_
  · refine lv_icmp_ne (tgt := 12) hx hb dX1_isFree_5 (by decide) (fun c_1 => ?_) (fun c_1 => ?_)
    · refine lv_iconst (v := 0) hx hb dX1_isFree_12 (by decide) ?_
      exact jb c_1
    · refine lv_iconst (v := 1) hx hb dX1_isFree_8 (by decide) ?_
      refine lv_goto (tgt := 13) hx hb dX1_isFree_9 (by decide) ?_
      exact ja c_1
  exact kr_zret hx hb hr hlocks hK hP hD hS (nb_ite (by decide) (by decide)) rfl rfl dX1_isFree_13
def m_mOwn (iv : Nat → Nat → Int32) (mi m : Nat) (x d : Int32) : Nat → Nat → Int32 := (up2 (up2 iv (28 + 2 * mi + m) 0 x) (28 + 2 * mi + m) 1 d)
set_option maxHeartbeats 4000000 in
set_option maxRecDepth 100000 in
theorem c_mOwn (l : Launch) (D : va_G) (gc : Nat → ClassId) (ad ln : Nat → Nat) (iv : Nat → Nat → Int32) (lv : Nat → Nat → Int64) (mi m : Nat) (hmi : mi < 2) (hm : m < 2) (x d : Int32) : kMv l yX1_own wX1_own ({ frames := 0, cells := 0, slots := 0, locals := 0 }) D vwCl (kT gc) 42 (kE gc) [.ref (ad (28 + 2 * mi + m)), .int x, .int d] (ad, ln, iv, lv) (ad, ln, m_mOwn iv mi m x d, lv) := by
  refine kv_start (cc := cX1_own) (maxL := 3) (by decide) rfl (Nat.le_of_ble_eq_true rfl) ?_
  intro p9 e9 s m9 below meth c9 A ls hx hb hr hts hown hlocks hml hA hK hP hD hS hl
  have hl : lv_has ls 3 [(0, .ref (ad (28 + 2 * mi + m))), (1, .int x), (2, .int d)] := hl
  have hown : s.vm.findClass "MonitorWays$Monitor" = some m9.cls := hown
  have hin_X1 : ∀ w ∈ u_ws "MonitorWays$Monitor" TX1 4, w ∈ wX1_own := fun w h => tcons (inX1 w h)
  have lk_f22 := hts _ (tcons tw_92)
  have lk_f25 := hts _ (tcons tw_95)
  refine lv_aload_n hx hb dX1_own_0 rfl (lv_at hl 0 rfl) ?_
  refine lv_iload_n hx hb dX1_own_1 rfl (lv_at hl 1 rfl) ?_
  refine kr_put (C := "MonitorWays$Monitor") (T := TX1) (N := 4) hx hb hts hin_X1 tyX1 ok_tyX1 ok_nX1 hown hK hP hD hS (28 + 2 * mi + m) (by omega) (fun _ => E_mon (mi := mi) (m := m) hmi hm _ _ _ _) rfl 0 (by decide) lk_f22 (fun _ h9 => h9) rfl rfl rfl rfl (fun _ => Nat.le_of_ble_eq_true rfl) (fun _ => rfl) dX1_own_2 (fun H locs hP hD hS => ?_)
  refine lv_aload_n hx hb dX1_own_5 rfl (lv_at hl 0 rfl) ?_
  refine lv_iload_n hx hb dX1_own_6 rfl (lv_at hl 2 rfl) ?_
  refine kr_put (C := "MonitorWays$Monitor") (T := TX1) (N := 4) hx hb hts hin_X1 tyX1 ok_tyX1 ok_nX1 hown hK hP hD hS (28 + 2 * mi + m) (by omega) (fun _ => E_mon (mi := mi) (m := m) hmi hm _ _ _ _) rfl 1 (by decide) lk_f25 (fun _ h9 => h9) rfl rfl rfl rfl (fun _ => Nat.le_of_ble_eq_true rfl) (fun _ => rfl) dX1_own_7 (fun H locs hP hD hS => ?_)
  exact kr_vret hx hb hr hlocks hK hP hD hS rfl dX1_own_10
def m_mLeave (iv : Nat → Nat → Int32) (mi m : Nat) : Nat → Nat → Int32 := if 0 < (up2 iv (28 + 2 * mi + m) 1 ((iv (28 + 2 * mi + m) 1) - 1)) (28 + 2 * mi + m) 1 then (up2 iv (28 + 2 * mi + m) 1 ((iv (28 + 2 * mi + m) 1) - 1)) else (m_mSetFree (up2 iv (28 + 2 * mi + m) 1 ((iv (28 + 2 * mi + m) 1) - 1)) mi m)
set_option maxHeartbeats 4000000 in
set_option maxRecDepth 100000 in
theorem c_mLeave (l : Launch) (D : va_G) (gc : Nat → ClassId) (ad ln : Nat → Nat) (iv : Nat → Nat → Int32) (lv : Nat → Nat → Int64) (mi m : Nat) (hmi : mi < 2) (hm : m < 2) : kMv l yX1_leaveOnce wX1_leaveOnce ({ frames := 1, cells := 0, slots := 0, locals := 20 }) D vwCl (kT gc) 42 (kE gc) [.ref (ad (28 + 2 * mi + m))] (ad, ln, iv, lv) (ad, ln, m_mLeave iv mi m, lv) := by
  refine kv_start (cc := cX1_leaveOnce) (maxL := 1) (by decide) rfl (Nat.le_of_ble_eq_true rfl) ?_
  intro p9 e9 s m9 below meth c9 A ls hx hb hr hts hown hlocks hml hA hK hP hD hS hl
  have hl : lv_has ls 1 [(0, .ref (ad (28 + 2 * mi + m)))] := hl
  have hown : s.vm.findClass "MonitorWays$Monitor" = some m9.cls := hown
  have hin_X1 : ∀ w ∈ u_ws "MonitorWays$Monitor" TX1 4, w ∈ wX1_leaveOnce := fun w h => tcons (inX1 w h)
  have lk_f25 := hts _ (tcons tw_95)
  refine lv_aload_n hx hb dX1_leaveOnce_0 rfl (lv_at hl 0 rfl) ?_
  refine lv_dup hx hb dX1_leaveOnce_1 rfl ?_
  refine kr_get (C := "MonitorWays$Monitor") (T := TX1) (N := 4) hx hb hts hin_X1 hown hK hP (28 + 2 * mi + m) (by omega) (E_mon (mi := mi) (m := m) hmi hm _ _ _ _) rfl 1 (by decide) lk_f25 (fun _ h9 => h9) rfl dX1_leaveOnce_2 ?_
  refine lv_iconst (v := 1) hx hb dX1_leaveOnce_5 (by decide) ?_
  refine lv_isub hx hb dX1_leaveOnce_6 ?_
  refine kr_put (C := "MonitorWays$Monitor") (T := TX1) (N := 4) hx hb hts hin_X1 tyX1 ok_tyX1 ok_nX1 hown hK hP hD hS (28 + 2 * mi + m) (by omega) (fun _ => E_mon (mi := mi) (m := m) hmi hm _ _ _ _) rfl 1 (by decide) lk_f25 (fun _ h9 => h9) rfl rfl rfl rfl (fun _ => Nat.le_of_ble_eq_true rfl) (fun _ => rfl) dX1_leaveOnce_7 (fun H locs hP hD hS => ?_)
  refine lv_aload_n hx hb dX1_leaveOnce_10 rfl (lv_at hl 0 rfl) ?_
  refine kr_get (C := "MonitorWays$Monitor") (T := TX1) (N := 4) hx hb hts hin_X1 hown hK hP (28 + 2 * mi + m) (by omega) (E_mon (mi := mi) (m := m) hmi hm _ _ _ _) rfl 1 (by decide) lk_f25 (fun _ h9 => h9) rfl dX1_leaveOnce_11 ?_
  refine lv_if_gt (tgt := 21) hx hb dX1_leaveOnce_14 (by decide) (fun c_1 => ?_) (fun c_1 => ?_)
  · exact kr_vret hx hb hr hlocks hK hP hD hS (by unfold m_mLeave; rw [if_pos c_1]) dX1_leaveOnce_21
  · refine lv_aload_n hx hb dX1_leaveOnce_17 rfl (lv_at hl 0 rfl) ?_
    refine kr_callVv (As := []) (rest := []) ⟨hx, hb, hml, hown, hts⟩ (c_mSetFree l D gc ad ln (up2 iv (28 + 2 * mi + m) 1 ((iv (28 + 2 * mi + m) 1) - 1)) lv mi m hmi hm) (cwV 0 hts (goodV (fun _ h => tcons h) tw_122 tw_123 tw_124 tw_5 tw_125) rfl rfl rfl (by decide +kernel) ⟨Nat.le_of_ble_eq_true rfl, Nat.le_of_ble_eq_true rfl⟩) (kr_recv hK hP (28 + 2 * mi + m) (by omega) (E_mon (mi := mi) (m := m) hmi hm _ _ _ _) rfl) hK hP hD hS hA rfl hl.1 rfl (Nat.le_of_ble_eq_true rfl) dX1_leaveOnce_18 ⟨Nat.le_of_ble_eq_true rfl, Nat.le_of_ble_eq_true rfl⟩ (fun H locs hP hD hS => ?_)
    exact kr_vret hx hb hr hlocks hK hP hD hS (by unfold m_mLeave; rw [if_neg c_1]) dX1_leaveOnce_21
def r_mWaiter (iv : Nat → Nat → Int32) (mi m : Nat) (k : Int32) : Int32 := if k < 0 then (-1) else if iv (28 + 2 * mi + m) 2 ≤ k then (-1) else iv (32 + 2 * mi + m) k.toNatClampNeg
set_option maxHeartbeats 4000000 in
set_option maxRecDepth 100000 in
theorem c_mWaiter (l : Launch) (D : va_G) (gc : Nat → ClassId) (ad ln : Nat → Nat) (iv : Nat → Nat → Int32) (lv : Nat → Nat → Int64) (mi m : Nat) (hmi : mi < 2) (hm : m < 2) (k : Int32) (sz : Nat) (hsz : iv (28 + 2 * mi + m) 2 = nI sz) (hs4 : sz ≤ 4) : kMi l yX1_waiterAt wX1_waiterAt ({ frames := 0, cells := 0, slots := 0, locals := 0 }) D vwCl (kT gc) 42 (kE gc) [.ref (ad (28 + 2 * mi + m)), .int k] (ad, ln, iv, lv) (ad, ln, iv, lv) (r_mWaiter iv mi m k) := by
  refine ki_start (cc := cX1_waiterAt) (maxL := 2) (ret := (some .int)) (by decide) rfl (Nat.le_of_ble_eq_true rfl) ?_
  intro p9 e9 s m9 below meth c9 A ls hx hb hr hts hown hlocks hml hA hK hP hD hS hl
  have hl : lv_has ls 2 [(0, .ref (ad (28 + 2 * mi + m))), (1, .int k)] := hl
  have hown : s.vm.findClass "MonitorWays$Monitor" = some m9.cls := hown
  have hin_X1 : ∀ w ∈ u_ws "MonitorWays$Monitor" TX1 4, w ∈ wX1_waiterAt := fun w h => tcons (inX1 w h)
  have lk_f18 := hts _ (tcons tw_98)
  have lk_f9 := hts _ (tcons tw_100)
  refine lv_iload_n hx hb dX1_waiterAt_0 rfl (lv_at hl 1 rfl) ?_
  refine lv_if_lt (tgt := 21) hx hb dX1_waiterAt_1 (by decide) (fun c_1 => ?_) (fun c_1 => ?_)
  · refine lv_iconst (v := (-1)) hx hb dX1_waiterAt_21 (by decide) ?_
    exact kr_iret hx hb hr hlocks hK hP hD hS (by unfold r_mWaiter; rw [if_pos c_1]) rfl dX1_waiterAt_22
  · refine lv_iload_n hx hb dX1_waiterAt_4 rfl (lv_at hl 1 rfl) ?_
    refine lv_aload_n hx hb dX1_waiterAt_5 rfl (lv_at hl 0 rfl) ?_
    refine kr_get (C := "MonitorWays$Monitor") (T := TX1) (N := 4) hx hb hts hin_X1 hown hK hP (28 + 2 * mi + m) (by omega) (E_mon (mi := mi) (m := m) hmi hm _ _ _ _) rfl 2 (by decide) lk_f18 (fun _ h9 => h9) rfl dX1_waiterAt_6 ?_
    refine lv_icmp_ge (tgt := 21) hx hb dX1_waiterAt_9 (by decide) (fun c_2 => ?_) (fun c_2 => ?_)
    · refine lv_iconst (v := (-1)) hx hb dX1_waiterAt_21 (by decide) ?_
      exact kr_iret hx hb hr hlocks hK hP hD hS (by unfold r_mWaiter; rw [if_neg c_1, if_pos c_2]) rfl dX1_waiterAt_22
    · refine lv_aload_n hx hb dX1_waiterAt_12 rfl (lv_at hl 0 rfl) ?_
      refine kr_get (C := "MonitorWays$Monitor") (T := TX1) (N := 4) hx hb hts hin_X1 hown hK hP (28 + 2 * mi + m) (by omega) (E_mon (mi := mi) (m := m) hmi hm _ _ _ _) rfl 3 (by decide) lk_f9 (fun _ h9 => h9) rfl dX1_waiterAt_13 ?_
      refine lv_iload_n hx hb dX1_waiterAt_16 rfl (lv_at hl 1 rfl) ?_
      refine kr_iald hx hb hK hP (32 + 2 * mi + m) 0 (by omega) (E_mset (mi := mi) (m := m) hmi hm _ _ _ _) rfl (in4_of c_1 c_2 hsz hs4) dX1_waiterAt_17 ?_
      refine lv_goto (tgt := 22) hx hb dX1_waiterAt_18 (by decide) ?_
      exact kr_iret hx hb hr hlocks hK hP hD hS (by unfold r_mWaiter; rw [if_neg c_1, if_neg c_2]) rfl dX1_waiterAt_22
def m_mAdd (iv : Nat → Nat → Int32) (mi m : Nat) (x : Int32) (sz : Nat) : Nat → Nat → Int32 := if 4 ≤ nI sz then iv else (up2 (up2 iv (32 + 2 * mi + m) sz x) (28 + 2 * mi + m) 2 ((nI sz) + 1))
set_option maxHeartbeats 4000000 in
set_option maxRecDepth 100000 in
theorem c_mAdd (l : Launch) (D : va_G) (gc : Nat → ClassId) (ad ln : Nat → Nat) (iv : Nat → Nat → Int32) (lv : Nat → Nat → Int64) (mi m : Nat) (hmi : mi < 2) (hm : m < 2) (x : Int32) (sz : Nat) (hsz : iv (28 + 2 * mi + m) 2 = nI sz) (hs4 : sz ≤ 4) : kMv l yX1_addWaiter wX1_addWaiter ({ frames := 0, cells := 0, slots := 0, locals := 0 }) D vwCl (kT gc) 42 (kE gc) [.ref (ad (28 + 2 * mi + m)), .int x] (ad, ln, iv, lv) (ad, ln, m_mAdd iv mi m x sz, lv) := by
  refine kv_start (cc := cX1_addWaiter) (maxL := 2) (by decide) rfl (Nat.le_of_ble_eq_true rfl) ?_
  intro p9 e9 s m9 below meth c9 A ls hx hb hr hts hown hlocks hml hA hK hP hD hS hl
  have hl : lv_has ls 2 [(0, .ref (ad (28 + 2 * mi + m))), (1, .int x)] := hl
  have hown : s.vm.findClass "MonitorWays$Monitor" = some m9.cls := hown
  have hin_X1 : ∀ w ∈ u_ws "MonitorWays$Monitor" TX1 4, w ∈ wX1_addWaiter := fun w h => tcons (inX1 w h)
  have lk_f18 := hts _ (tcons tw_98)
  have lk_f9 := hts _ (tcons tw_100)
  refine lv_aload_n hx hb dX1_addWaiter_0 rfl (lv_at hl 0 rfl) ?_
  refine kr_get (C := "MonitorWays$Monitor") (T := TX1) (N := 4) hx hb hts hin_X1 hown hK hP (28 + 2 * mi + m) (by omega) (E_mon (mi := mi) (m := m) hmi hm _ _ _ _) rfl 2 (by decide) lk_f18 (fun _ h9 => h9) rfl dX1_addWaiter_1 ?_
  refine kr_topi (y := nI sz) hsz ?_
  refine lv_iconst (v := 4) hx hb dX1_addWaiter_4 (by decide) ?_
  refine lv_icmp_ge (tgt := 28) hx hb dX1_addWaiter_5 (by decide) (fun c_1 => ?_) (fun c_1 => ?_)
  · exact kr_vret hx hb hr hlocks hK hP hD hS (by unfold m_mAdd; rw [if_pos c_1]) dX1_addWaiter_28
  · refine lv_aload_n hx hb dX1_addWaiter_8 rfl (lv_at hl 0 rfl) ?_
    refine kr_get (C := "MonitorWays$Monitor") (T := TX1) (N := 4) hx hb hts hin_X1 hown hK hP (28 + 2 * mi + m) (by omega) (E_mon (mi := mi) (m := m) hmi hm _ _ _ _) rfl 3 (by decide) lk_f9 (fun _ h9 => h9) rfl dX1_addWaiter_9 ?_
    refine lv_aload_n hx hb dX1_addWaiter_12 rfl (lv_at hl 0 rfl) ?_
    refine kr_get (C := "MonitorWays$Monitor") (T := TX1) (N := 4) hx hb hts hin_X1 hown hK hP (28 + 2 * mi + m) (by omega) (E_mon (mi := mi) (m := m) hmi hm _ _ _ _) rfl 2 (by decide) lk_f18 (fun _ h9 => h9) rfl dX1_addWaiter_13 ?_
    refine kr_topi (y := nI sz) hsz ?_
    refine lv_iload_n hx hb dX1_addWaiter_16 rfl (lv_at hl 1 rfl) ?_
    refine kr_iastN hx hb hK hP hD hS (32 + 2 * mi + m) 0 (by omega) (fun _ => E_mset (mi := mi) (m := m) hmi hm _ _ _ _) rfl (j := sz) (lt_of_nle (a := 4) (by decide) (by omega) c_1) (by decide) dX1_addWaiter_17 (fun H locs hP hD hS => ?_)
    refine lv_aload_n hx hb dX1_addWaiter_18 rfl (lv_at hl 0 rfl) ?_
    refine lv_dup hx hb dX1_addWaiter_19 rfl ?_
    refine kr_get (C := "MonitorWays$Monitor") (T := TX1) (N := 4) hx hb hts hin_X1 hown hK hP (28 + 2 * mi + m) (by omega) (E_mon (mi := mi) (m := m) hmi hm _ _ _ _) rfl 2 (by decide) lk_f18 (fun _ h9 => h9) rfl dX1_addWaiter_20 ?_
    refine kr_topi (y := nI sz) ((up2_ne (by omega)).trans hsz) ?_
    refine lv_iconst (v := 1) hx hb dX1_addWaiter_23 (by decide) ?_
    refine lv_iadd hx hb dX1_addWaiter_24 ?_
    refine kr_put (C := "MonitorWays$Monitor") (T := TX1) (N := 4) hx hb hts hin_X1 tyX1 ok_tyX1 ok_nX1 hown hK hP hD hS (28 + 2 * mi + m) (by omega) (fun _ => E_mon (mi := mi) (m := m) hmi hm _ _ _ _) rfl 2 (by decide) lk_f18 (fun _ h9 => h9) rfl rfl rfl rfl (fun _ => Nat.le_of_ble_eq_true rfl) (fun _ => rfl) dX1_addWaiter_25 (fun H locs hP hD hS => ?_)
    exact kr_vret hx hb hr hlocks hK hP hD hS (by unfold m_mAdd; rw [if_neg c_1]) dX1_addWaiter_28
/-- what dropWaiter does: k places are left to look at -/
def dropL (c : Nat) (x : Int32) (sz : Nat) : Nat → Nat → (Nat → Nat → Int32) → (Nat → Nat → Int32) × Nat
  | 0, lf, iv => (iv, lf)
  | k + 1, lf, iv => if iv c (sz - (k + 1)) = x then dropL c x sz k lf iv else dropL c x sz k (lf + 1) (up2 iv c lf (iv c (sz - (k + 1))))
theorem dropL_y {c : Nat} {x : Int32} {sz i lf : Nat} {iv : Nat → Nat → Int32} (hi : i < sz) (h : iv c i = x) : dropL c x sz (sz - i) lf iv = dropL c x sz (sz - (i + 1)) lf iv := by
  rw [show sz - i = (sz - (i + 1)) + 1 by omega, dropL, show sz - (sz - (i + 1) + 1) = i by omega, if_pos h]
theorem dropL_n {c : Nat} {x : Int32} {sz i lf : Nat} {iv : Nat → Nat → Int32} (hi : i < sz) (h : ¬ iv c i = x) : dropL c x sz (sz - i) lf iv = dropL c x sz (sz - (i + 1)) (lf + 1) (up2 iv c lf (iv c i)) := by
  rw [show sz - i = (sz - (i + 1)) + 1 by omega, dropL, show sz - (sz - (i + 1) + 1) = i by omega, if_neg h]
def m_mDrop (iv : Nat → Nat → Int32) (mi m : Nat) (x : Int32) (sz : Nat) : Nat → Nat → Int32 := up2 (dropL (32 + 2 * mi + m) x sz sz 0 iv).1 (28 + 2 * mi + m) 2 (nI (dropL (32 + 2 * mi + m) x sz sz 0 iv).2)
/-- the numbers of a set, packed, after k of them -/
def mPk (iv : Nat → Nat → Int32) (c : Nat) (b : Int32) : Nat → Int32
  | 0 => b
  | k + 1 => mPk iv c b k ||| (iv c k <<< (((9 : Int32) + (2 * nI k)) &&& 31))
def r_mPack (iv : Nat → Nat → Int32) (mi m sz : Nat) : Int64 := (mPk iv (32 + 2 * mi + m) ((((iv (28 + 2 * mi + m) 0) + 1) ||| ((iv (28 + 2 * mi + m) 1) <<< ((3 : Int32) &&& 31))) ||| (nI sz <<< ((6 : Int32) &&& 31))) sz).toInt64
set_option maxHeartbeats 4000000 in
set_option maxRecDepth 100000 in
theorem c_mDrop (l : Launch) (D : va_G) (gc : Nat → ClassId) (ad ln : Nat → Nat) (iv : Nat → Nat → Int32) (lv : Nat → Nat → Int64) (mi m : Nat) (hmi : mi < 2) (hm : m < 2) (x : Int32) (sz : Nat) (hsz : iv (28 + 2 * mi + m) 2 = nI sz) (hs4 : sz ≤ 4) : kMv l yX1_dropWaiter wX1_dropWaiter ({ frames := 0, cells := 0, slots := 0, locals := 0 }) D vwCl (kT gc) 42 (kE gc) [.ref (ad (28 + 2 * mi + m)), .int x] (ad, ln, iv, lv) (ad, ln, m_mDrop iv mi m x sz, lv) := by
  refine kv_start (cc := cX1_dropWaiter) (maxL := 4) (by decide) rfl (Nat.le_of_ble_eq_true rfl) ?_
  intro p9 e9 s m9 below meth c9 A ls hx hb hr hts hown hlocks hml hA hK hP hD hS hl
  have hl : lv_has ls 4 [(0, .ref (ad (28 + 2 * mi + m))), (1, .int x)] := hl
  have hown : s.vm.findClass "MonitorWays$Monitor" = some m9.cls := hown
  have hin_X1 : ∀ w ∈ u_ws "MonitorWays$Monitor" TX1 4, w ∈ wX1_dropWaiter := fun w h => tcons (inX1 w h)
  have lk_f18 := hts _ (tcons tw_98)
  have lk_f9 := hts _ (tcons tw_100)
  refine lv_iconst (v := 0) hx hb dX1_dropWaiter_0 (by decide) ?_
  refine lv_istore_n (lv' := [(2, .int 0), (0, .ref (ad (28 + 2 * mi + m))), (1, .int x)]) hx hb dX1_dropWaiter_1 rfl hl (by decide) rfl (fun ls hl => ?_)
  refine lv_iconst (v := 0) hx hb dX1_dropWaiter_2 (by decide) ?_
  refine lv_istore_n (lv' := [(3, .int 0), (2, .int 0), (0, .ref (ad (28 + 2 * mi + m))), (1, .int x)]) hx hb dX1_dropWaiter_3 rfl hl (by decide) rfl (fun ls hl => ?_)
  refine kr_loop (σ := Nat × Nat × ((Nat → Nat → Int32))) (fun z9 => match z9 with | (i, lf, ivk) => sz - i) (fun z9 H locs ls => match z9 with | (i, lf, ivk) => (i ≤ sz) ∧ (lf ≤ i) ∧ (ivk (28 + 2 * mi + m) 2 = nI sz) ∧ (dropL (32 + 2 * mi + m) x sz (sz - i) lf ivk = dropL (32 + 2 * mi + m) x sz sz 0 iv) ∧ va_P D vwCl (mW 42 (kE gc) (ad, ln, ivk, lv)) H ∧ va_D A (mW 42 (kE gc) (ad, ln, ivk, lv)) ∧ va_S A s.heap H locs ∧ lv_has ls 4 [(0, .ref (ad (28 + 2 * mi + m))), (1, .int x), (2, .int (nI lf)), (3, .int (nI i))]) 4 (0, 0, iv) ⟨Nat.zero_le _, Nat.le_refl 0, hsz, rfl, hP, hD, hS, lv_sub hl [2, 3, 1, 0] rfl⟩ ?_
  intro z9 H locs ls hI ih
  obtain ⟨i, lf, ivk⟩ := z9
  obtain ⟨hi, hlf, hszk, heq, hP, hD, hS, hl⟩ := hI
  refine lv_iload_n hx hb dX1_dropWaiter_4 rfl (lv_at hl 3 rfl) ?_
  refine lv_aload_n hx hb dX1_dropWaiter_5 rfl (lv_at hl 0 rfl) ?_
  refine kr_get (C := "MonitorWays$Monitor") (T := TX1) (N := 4) hx hb hts hin_X1 hown hK hP (28 + 2 * mi + m) (by omega) (E_mon (mi := mi) (m := m) hmi hm _ _ _ _) rfl 2 (by decide) lk_f18 (fun _ h9 => h9) rfl dX1_dropWaiter_6 ?_
  refine kr_topi (y := nI sz) hszk ?_
  refine lv_icmp_ge (tgt := 43) hx hb dX1_dropWaiter_9 (by decide) (fun c_1 => ?_) (fun c_1 => ?_)
  · have hie : sz = i := by have := (nI_leI (by omega) (by omega)).mp c_1; omega
    subst hie
    rw [Nat.sub_self, dropL] at heq
    refine lv_aload_n hx hb dX1_dropWaiter_43 rfl (lv_at hl 0 rfl) ?_
    refine lv_iload_n hx hb dX1_dropWaiter_44 rfl (lv_at hl 2 rfl) ?_
    refine kr_put (C := "MonitorWays$Monitor") (T := TX1) (N := 4) hx hb hts hin_X1 tyX1 ok_tyX1 ok_nX1 hown hK hP hD hS (28 + 2 * mi + m) (by omega) (fun _ => E_mon (mi := mi) (m := m) hmi hm _ _ _ _) rfl 2 (by decide) lk_f18 (fun _ h9 => h9) rfl rfl rfl rfl (fun _ => Nat.le_of_ble_eq_true rfl) (fun _ => rfl) dX1_dropWaiter_45 (fun H locs hP hD hS => ?_)
    exact kr_vret hx hb hr hlocks hK hP hD hS (by unfold m_mDrop; rw [← heq]) dX1_dropWaiter_48
  · have hlt : i < sz := by rcases Nat.lt_or_ge i sz with h | h; exact h; exact absurd ((nI_leI (by omega) (by omega)).mpr h) c_1
    refine lv_aload_n hx hb dX1_dropWaiter_12 rfl (lv_at hl 0 rfl) ?_
    refine kr_get (C := "MonitorWays$Monitor") (T := TX1) (N := 4) hx hb hts hin_X1 hown hK hP (28 + 2 * mi + m) (by omega) (E_mon (mi := mi) (m := m) hmi hm _ _ _ _) rfl 3 (by decide) lk_f9 (fun _ h9 => h9) rfl dX1_dropWaiter_13 ?_
    refine lv_iload_n hx hb dX1_dropWaiter_16 rfl (lv_at hl 3 rfl) ?_
    refine kr_ialdN hx hb hK hP (32 + 2 * mi + m) 0 (by omega) (E_mset (mi := mi) (m := m) hmi hm _ _ _ _) rfl (j := i) (by omega) (by decide) dX1_dropWaiter_17 ?_
    refine lv_iload_n hx hb dX1_dropWaiter_18 rfl (lv_at hl 1 rfl) ?_
    refine lv_icmp_eq (tgt := 37) hx hb dX1_dropWaiter_19 (by decide) (fun c_2 => ?_) (fun c_2 => ?_)
    · refine lv_iinc (v := nI (i + 1)) (lv' := [(3, .int (nI (i + 1))), (0, .ref (ad (28 + 2 * mi + m))), (1, .int x), (2, .int (nI lf))]) hx hb dX1_dropWaiter_37 hl (k := 3) rfl (nI_1 i) (by decide) rfl (fun ls hl => ?_)
      refine lv_goto (tgt := 4) hx hb dX1_dropWaiter_40 (by decide) ?_
      exact ih (i + 1, lf, ivk) H locs ls ⟨by omega, by omega, hszk, (dropL_y (by omega) c_2).symm.trans heq, hP, hD, hS, lv_sub hl [1, 2, 3, 0] rfl⟩ (by show sz - (i + 1) < sz - i; omega)
    · refine lv_aload_n hx hb dX1_dropWaiter_22 rfl (lv_at hl 0 rfl) ?_
      refine kr_get (C := "MonitorWays$Monitor") (T := TX1) (N := 4) hx hb hts hin_X1 hown hK hP (28 + 2 * mi + m) (by omega) (E_mon (mi := mi) (m := m) hmi hm _ _ _ _) rfl 3 (by decide) lk_f9 (fun _ h9 => h9) rfl dX1_dropWaiter_23 ?_
      refine lv_iload_n hx hb dX1_dropWaiter_26 rfl (lv_at hl 2 rfl) ?_
      refine lv_aload_n hx hb dX1_dropWaiter_27 rfl (lv_at hl 0 rfl) ?_
      refine kr_get (C := "MonitorWays$Monitor") (T := TX1) (N := 4) hx hb hts hin_X1 hown hK hP (28 + 2 * mi + m) (by omega) (E_mon (mi := mi) (m := m) hmi hm _ _ _ _) rfl 3 (by decide) lk_f9 (fun _ h9 => h9) rfl dX1_dropWaiter_28 ?_
      refine lv_iload_n hx hb dX1_dropWaiter_31 rfl (lv_at hl 3 rfl) ?_
      refine kr_ialdN hx hb hK hP (32 + 2 * mi + m) 0 (by omega) (E_mset (mi := mi) (m := m) hmi hm _ _ _ _) rfl (j := i) (by omega) (by decide) dX1_dropWaiter_32 ?_
      refine kr_iastN hx hb hK hP hD hS (32 + 2 * mi + m) 0 (by omega) (fun _ => E_mset (mi := mi) (m := m) hmi hm _ _ _ _) rfl (j := lf) (by omega) (by decide) dX1_dropWaiter_33 (fun H locs hP hD hS => ?_)
      refine lv_iinc (v := nI (lf + 1)) (lv' := [(2, .int (nI (lf + 1))), (0, .ref (ad (28 + 2 * mi + m))), (1, .int x), (3, .int (nI i))]) hx hb dX1_dropWaiter_34 hl (k := 2) rfl (nI_1 lf) (by decide) rfl (fun ls hl => ?_)
      refine lv_iinc (v := nI (i + 1)) (lv' := [(3, .int (nI (i + 1))), (2, .int (nI (lf + 1))), (0, .ref (ad (28 + 2 * mi + m))), (1, .int x)]) hx hb dX1_dropWaiter_37 hl (k := 3) rfl (nI_1 i) (by decide) rfl (fun ls hl => ?_)
      refine lv_goto (tgt := 4) hx hb dX1_dropWaiter_40 (by decide) ?_
      exact ih (i + 1, lf + 1, up2 ivk (32 + 2 * mi + m) lf (ivk (32 + 2 * mi + m) i)) H locs ls ⟨by omega, by omega, (up2_ne (by omega)).trans hszk, (dropL_n (by omega) c_2).symm.trans heq, hP, hD, hS, lv_sub hl [2, 3, 1, 0] rfl⟩ (by show sz - (i + 1) < sz - i; omega)
set_option maxHeartbeats 4000000 in
set_option maxRecDepth 100000 in
theorem c_mPack (l : Launch) (D : va_G) (gc : Nat → ClassId) (ad ln : Nat → Nat) (iv : Nat → Nat → Int32) (lv : Nat → Nat → Int64) (mi m : Nat) (hmi : mi < 2) (hm : m < 2) (sz : Nat) (hsz : iv (28 + 2 * mi + m) 2 = nI sz) (hs4 : sz ≤ 4) : kMl l yX1_packed wX1_packed ({ frames := 0, cells := 0, slots := 0, locals := 0 }) D vwCl (kT gc) 42 (kE gc) [.ref (ad (28 + 2 * mi + m))] (ad, ln, iv, lv) (ad, ln, iv, lv) (r_mPack iv mi m sz) := by
  refine kl_start (cc := cX1_packed) (maxL := 3) (ret := (some .long)) (by decide) rfl (Nat.le_of_ble_eq_true rfl) ?_
  intro p9 e9 s m9 below meth c9 A ls hx hb hr hts hown hlocks hml hA hK hP hD hS hl
  have hl : lv_has ls 3 [(0, .ref (ad (28 + 2 * mi + m)))] := hl
  have hown : s.vm.findClass "MonitorWays$Monitor" = some m9.cls := hown
  have hin_X1 : ∀ w ∈ u_ws "MonitorWays$Monitor" TX1 4, w ∈ wX1_packed := fun w h => tcons (inX1 w h)
  have lk_f22 := hts _ (tcons tw_92)
  have lk_f25 := hts _ (tcons tw_95)
  have lk_f18 := hts _ (tcons tw_98)
  have lk_f9 := hts _ (tcons tw_100)
  refine lv_aload_n hx hb dX1_packed_0 rfl (lv_at hl 0 rfl) ?_
  refine kr_get (C := "MonitorWays$Monitor") (T := TX1) (N := 4) hx hb hts hin_X1 hown hK hP (28 + 2 * mi + m) (by omega) (E_mon (mi := mi) (m := m) hmi hm _ _ _ _) rfl 0 (by decide) lk_f22 (fun _ h9 => h9) rfl dX1_packed_1 ?_
  refine lv_iconst (v := 1) hx hb dX1_packed_4 (by decide) ?_
  refine lv_iadd hx hb dX1_packed_5 ?_
  refine lv_aload_n hx hb dX1_packed_6 rfl (lv_at hl 0 rfl) ?_
  refine kr_get (C := "MonitorWays$Monitor") (T := TX1) (N := 4) hx hb hts hin_X1 hown hK hP (28 + 2 * mi + m) (by omega) (E_mon (mi := mi) (m := m) hmi hm _ _ _ _) rfl 1 (by decide) lk_f25 (fun _ h9 => h9) rfl dX1_packed_7 ?_
  refine lv_iconst (v := 3) hx hb dX1_packed_10 (by decide) ?_
  refine lv_ishl hx hb dX1_packed_11 ?_
  refine lv_ior hx hb dX1_packed_12 ?_
  refine lv_aload_n hx hb dX1_packed_13 rfl (lv_at hl 0 rfl) ?_
  refine kr_get (C := "MonitorWays$Monitor") (T := TX1) (N := 4) hx hb hts hin_X1 hown hK hP (28 + 2 * mi + m) (by omega) (E_mon (mi := mi) (m := m) hmi hm _ _ _ _) rfl 2 (by decide) lk_f18 (fun _ h9 => h9) rfl dX1_packed_14 ?_
  refine kr_topi (y := nI sz) hsz ?_
  refine lv_bipush (v := 6) hx hb dX1_packed_17 (by decide) ?_
  refine lv_ishl hx hb dX1_packed_19 ?_
  refine lv_ior hx hb dX1_packed_20 ?_
  refine lv_istore_n (lv' := [(1, .int ((((iv (28 + 2 * mi + m) 0) + 1) ||| ((iv (28 + 2 * mi + m) 1) <<< ((3 : Int32) &&& 31))) ||| ((nI sz) <<< ((6 : Int32) &&& 31)))), (0, .ref (ad (28 + 2 * mi + m)))]) hx hb dX1_packed_21 rfl hl (by decide) rfl (fun ls hl => ?_)
  refine lv_iconst (v := 0) hx hb dX1_packed_22 (by decide) ?_
  refine lv_istore_n (lv' := [(2, .int 0), (1, .int ((((iv (28 + 2 * mi + m) 0) + 1) ||| ((iv (28 + 2 * mi + m) 1) <<< ((3 : Int32) &&& 31))) ||| ((nI sz) <<< ((6 : Int32) &&& 31)))), (0, .ref (ad (28 + 2 * mi + m)))]) hx hb dX1_packed_23 rfl hl (by decide) rfl (fun ls hl => ?_)
  refine kr_loop (σ := Nat) (fun z9 => match z9 with | i => sz - i) (fun z9 H locs ls => match z9 with | i => (i ≤ sz) ∧ va_P D vwCl (mW 42 (kE gc) (ad, ln, iv, lv)) H ∧ va_D A (mW 42 (kE gc) (ad, ln, iv, lv)) ∧ va_S A s.heap H locs ∧ lv_has ls 3 [(0, .ref (ad (28 + 2 * mi + m))), (1, .int (mPk iv (32 + 2 * mi + m) ((((iv (28 + 2 * mi + m) 0) + 1) ||| ((iv (28 + 2 * mi + m) 1) <<< ((3 : Int32) &&& 31))) ||| (nI sz <<< ((6 : Int32) &&& 31))) i)), (2, .int (nI i))]) 24 (0) ⟨Nat.zero_le _, hP, hD, hS, lv_sub hl [2, 1, 0] rfl⟩ ?_
  intro z9 H locs ls hI ih
  obtain ⟨i, hx9⟩ : ∃ z, z = z9 := ⟨_, rfl⟩
  subst hx9
  obtain ⟨hi, hP, hD, hS, hl⟩ := hI
  refine lv_iload_n hx hb dX1_packed_24 rfl (lv_at hl 2 rfl) ?_
  refine lv_aload_n hx hb dX1_packed_25 rfl (lv_at hl 0 rfl) ?_
  refine kr_get (C := "MonitorWays$Monitor") (T := TX1) (N := 4) hx hb hts hin_X1 hown hK hP (28 + 2 * mi + m) (by omega) (E_mon (mi := mi) (m := m) hmi hm _ _ _ _) rfl 2 (by decide) lk_f18 (fun _ h9 => h9) rfl dX1_packed_26 ?_
  refine kr_topi (y := nI sz) hsz ?_
  refine lv_icmp_ge (tgt := 54) hx hb dX1_packed_29 (by decide) (fun c_1 => ?_) (fun c_1 => ?_)
  · have hie : sz = i := by have := (nI_leI (by omega) (by omega)).mp c_1; omega
    subst hie
    refine lv_iload_n hx hb dX1_packed_54 rfl (lv_at hl 1 rfl) ?_
    refine lv_i2l hx hb dX1_packed_55 rfl ?_
    exact kr_lret hx hb hr hlocks hK hP hD hS rfl rfl dX1_packed_56
  · have hlt : i < sz := lt_of_nle (by omega) (by omega) c_1
    refine lv_iload_n hx hb dX1_packed_32 rfl (lv_at hl 1 rfl) ?_
    refine lv_aload_n hx hb dX1_packed_33 rfl (lv_at hl 0 rfl) ?_
    refine kr_get (C := "MonitorWays$Monitor") (T := TX1) (N := 4) hx hb hts hin_X1 hown hK hP (28 + 2 * mi + m) (by omega) (E_mon (mi := mi) (m := m) hmi hm _ _ _ _) rfl 3 (by decide) lk_f9 (fun _ h9 => h9) rfl dX1_packed_34 ?_
    refine lv_iload_n hx hb dX1_packed_37 rfl (lv_at hl 2 rfl) ?_
    refine kr_ialdN hx hb hK hP (32 + 2 * mi + m) 0 (by omega) (E_mset (mi := mi) (m := m) hmi hm _ _ _ _) rfl (j := i) (by omega) (by decide) dX1_packed_38 ?_
    refine lv_bipush (v := 9) hx hb dX1_packed_39 (by decide) ?_
    refine lv_iconst (v := 2) hx hb dX1_packed_41 (by decide) ?_
    refine lv_iload_n hx hb dX1_packed_42 rfl (lv_at hl 2 rfl) ?_
    refine lv_imul hx hb dX1_packed_43 ?_
    refine lv_iadd hx hb dX1_packed_44 ?_
    refine lv_ishl hx hb dX1_packed_45 ?_
    refine lv_ior hx hb dX1_packed_46 ?_
    refine lv_istore_n (lv' := [(1, .int ((mPk iv (32 + 2 * mi + m) ((((iv (28 + 2 * mi + m) 0) + 1) ||| ((iv (28 + 2 * mi + m) 1) <<< ((3 : Int32) &&& 31))) ||| (nI sz <<< ((6 : Int32) &&& 31))) i) ||| ((iv (32 + 2 * mi + m) i) <<< ((9 + (2 * (nI i))) &&& 31)))), (0, .ref (ad (28 + 2 * mi + m))), (2, .int (nI i))]) hx hb dX1_packed_47 rfl hl (by decide) rfl (fun ls hl => ?_)
    refine lv_iinc (v := nI (i + 1)) (lv' := [(2, .int (nI (i + 1))), (1, .int ((mPk iv (32 + 2 * mi + m) ((((iv (28 + 2 * mi + m) 0) + 1) ||| ((iv (28 + 2 * mi + m) 1) <<< ((3 : Int32) &&& 31))) ||| (nI sz <<< ((6 : Int32) &&& 31))) i) ||| ((iv (32 + 2 * mi + m) i) <<< ((9 + (2 * (nI i))) &&& 31)))), (0, .ref (ad (28 + 2 * mi + m)))]) hx hb dX1_packed_48 hl (k := 2) rfl (nI_1 i) (by decide) rfl (fun ls hl => ?_)
    refine lv_goto (tgt := 24) hx hb dX1_packed_51 (by decide) ?_
    exact ih (i + 1) H locs ls ⟨by omega, hP, hD, hS, lv_sub hl [2, 1, 0] rfl⟩ (by show sz - (i + 1) < sz - i; omega)
