theorem vn_lt {x : Int32} {N : Nat} (h : vp_in x N) : x.toNatClampNeg < N := Nat.not_le.mp fun q => h (Or.inr q)
/-- whom waiterAt names is a thread, if the set holds threads -/
theorem hv_of {iv : Nat → Nat → Int32} {mi mm sz : Nat} {k : Int32} (hsz : iv (28 + 2 * mi + mm) 2 = nI sz) (hs4 : sz ≤ 4) (hent : ∀ j, j < sz → vp_in (iv (32 + 2 * mi + mm) j) 4) (h : ¬ r_mWaiter iv mi mm k = -1) : vp_in (r_mWaiter iv mi mm k) 4 := by
  unfold r_mWaiter at h ⊢
  by_cases h1 : k < 0
  · rw [if_pos h1] at h; exact absurd rfl h
  · rw [if_neg h1] at h ⊢
    by_cases h2 : iv (28 + 2 * mi + mm) 2 ≤ k
    · rw [if_pos h2] at h; exact absurd rfl h
    · rw [if_neg h2]
      have h3 := vp_in_iff.mp (in4_of h1 h2 hsz hs4)
      refine hent _ ?_
      rw [hsz, Int32.le_iff_toInt_le, nI_toInt (by omega)] at h2
      have h4 : (k.toNatClampNeg : Int) = k.toInt := by
        obtain ⟨j, hj, rfl⟩ := nI_of h1
        rw [nI_clamp hj, nI_toInt hj]
      omega
def m_aInto (iv : Nat → Nat → Int32) (mi t mm sz : Nat) : Nat → Nat → Int32 := (m_mAdd (m_mSetFree (up2 (up2 iv (20 + 4 * mi + t) 2 (iv (28 + 2 * mi + mm) 1)) (20 + 4 * mi + t) 0 1) mi mm) mi mm (nI t) sz)
set_option maxHeartbeats 4000000 in
set_option maxRecDepth 100000 in
theorem c_aInto (l : Launch) (D : va_G) (gc : Nat → ClassId) (ad ln : Nat → Nat) (iv : Nat → Nat → Int32) (lv : Nat → Nat → Int64) (mi t mm : Nat) (hmi : mi < 2) (ht : t < 4) (hmm : mm < 2) (sz : Nat) (hsz : iv (28 + 2 * mi + mm) 2 = nI sz) (hs4 : sz ≤ 4) : kMv l yX0_goIntoSet wX0_goIntoSet ({ frames := 1, cells := 0, slots := 0, locals := 21 }) D vwCl (kT gc) 42 (kE gc) [.ref (ad (14 + mi)), .int (nI t), .ref (ad (28 + 2 * mi + mm))] (ad, ln, iv, lv) (ad, ln, m_aInto iv mi t mm sz, lv) := by
  refine kv_start (cc := cX0_goIntoSet) (maxL := 3) (by decide) rfl (Nat.le_of_ble_eq_true rfl) ?_
  intro p9 e9 s m9 below meth c9 A ls hx hb hr hts hown hlocks hml hA hK hP hD hS hl
  have hl : lv_has ls 3 [(0, .ref (ad (14 + mi))), (1, .int (nI t)), (2, .ref (ad (28 + 2 * mi + mm)))] := hl
  have hown : s.vm.findClass "MonitorWays$Machine" = some m9.cls := hown
  have hin_X0 : ∀ w ∈ u_ws "MonitorWays$Machine" TX0 3, w ∈ wX0_goIntoSet := fun w h => tcons (inX0 w h)
  have hin_X1 : ∀ w ∈ u_ws "MonitorWays$Monitor" TX1 4, w ∈ wX0_goIntoSet := fun w h => tcons (inX1 w h)
  have hin_X5 : ∀ w ∈ u_ws "MonitorWays$Worker" TX5 8, w ∈ wX0_goIntoSet := fun w h => tcons (inX5 w h)
  have lk_f11 := hts _ (tcons tw_126)
  have lk_f105 := hts _ (tcons tw_97)
  have lk_f131 := hts _ (tcons tw_61)
  have lk_f36 := hts _ (tcons tw_58)
  refine lv_aload_n hx hb dX0_goIntoSet_0 rfl (lv_at hl 0 rfl) ?_
  refine kr_get (C := "MonitorWays$Machine") (T := TX0) (N := 3) hx hb hts hin_X0 hown hK hP (14 + mi) (by omega) (E_mach hmi _ _ _ _) rfl 0 (by decide) lk_f11 (fun _ h9 => h9) rfl dX0_goIntoSet_1 ?_
  refine lv_iload_n hx hb dX0_goIntoSet_4 rfl (lv_at hl 1 rfl) ?_
  refine kr_aald (a := ad (20 + 4 * mi + t)) hx hb hK hP (16 + mi) 4 (by omega) (E_warr hmi _ _ _ _) rfl (vp_in_nI (n := t) (by omega) (by decide)) (by rw [nI_clamp (show t < 2 ^ 31 by omega)]) dX0_goIntoSet_5 ?_
  refine lv_aload_n hx hb dX0_goIntoSet_6 rfl (lv_at hl 2 rfl) ?_
  refine kr_get (C := "MonitorWays$Monitor") (T := TX1) (N := 4) hx hb hts hin_X1 hown hK hP (28 + 2 * mi + mm) (by omega) (E_mon (mi := mi) (m := mm) hmi hmm _ _ _ _) rfl 1 (by decide) lk_f105 (fun _ h9 => h9) rfl dX0_goIntoSet_7 ?_
  refine kr_put (C := "MonitorWays$Worker") (T := TX5) (N := 8) hx hb hts hin_X5 tyX5 ok_tyX5 ok_nX5 hown hK hP hD hS (20 + 4 * mi + t) (by omega) (fun _ => E_wk (mi := mi) (t := t) hmi (by omega) _ _ _ _) rfl 2 (by decide) lk_f131 (fun _ h9 => h9) rfl rfl rfl rfl (fun _ => Nat.le_of_ble_eq_true rfl) (fun _ => rfl) dX0_goIntoSet_10 (fun H locs hP hD hS => ?_)
  refine lv_aload_n hx hb dX0_goIntoSet_13 rfl (lv_at hl 0 rfl) ?_
  refine kr_get (C := "MonitorWays$Machine") (T := TX0) (N := 3) hx hb hts hin_X0 hown hK hP (14 + mi) (by omega) (E_mach hmi _ _ _ _) rfl 0 (by decide) lk_f11 (fun _ h9 => h9) rfl dX0_goIntoSet_14 ?_
  refine lv_iload_n hx hb dX0_goIntoSet_17 rfl (lv_at hl 1 rfl) ?_
  refine kr_aald (a := ad (20 + 4 * mi + t)) hx hb hK hP (16 + mi) 4 (by omega) (E_warr hmi _ _ _ _) rfl (vp_in_nI (n := t) (by omega) (by decide)) (by rw [nI_clamp (show t < 2 ^ 31 by omega)]) dX0_goIntoSet_18 ?_
  refine lv_iconst (v := 1) hx hb dX0_goIntoSet_19 (by decide) ?_
  refine kr_put (C := "MonitorWays$Worker") (T := TX5) (N := 8) hx hb hts hin_X5 tyX5 ok_tyX5 ok_nX5 hown hK hP hD hS (20 + 4 * mi + t) (by omega) (fun _ => E_wk (mi := mi) (t := t) hmi (by omega) _ _ _ _) rfl 0 (by decide) lk_f36 (fun _ h9 => h9) rfl rfl rfl rfl (fun _ => Nat.le_of_ble_eq_true rfl) (fun _ => rfl) dX0_goIntoSet_20 (fun H locs hP hD hS => ?_)
  refine lv_aload_n hx hb dX0_goIntoSet_23 rfl (lv_at hl 2 rfl) ?_
  refine kr_callVv (As := []) (rest := []) ⟨hx, hb, hml, hown, hts⟩ (c_mSetFree l D gc ad ln (up2 (up2 iv (20 + 4 * mi + t) 2 (iv (28 + 2 * mi + mm) 1)) (20 + 4 * mi + t) 0 1) lv mi mm hmi hmm) (cwV 0 hts (goodV (fun _ h => tcons h) tw_332 tw_123 tw_124 tw_5 tw_125) rfl rfl rfl (by decide +kernel) ⟨Nat.le_of_ble_eq_true rfl, Nat.le_of_ble_eq_true rfl⟩) (kr_recv hK hP (28 + 2 * mi + mm) (by omega) (E_mon (mi := mi) (m := mm) hmi hmm _ _ _ _) rfl) hK hP hD hS hA rfl hl.1 rfl (Nat.le_of_ble_eq_true rfl) dX0_goIntoSet_24 ⟨Nat.le_of_ble_eq_true rfl, Nat.le_of_ble_eq_true rfl⟩ (fun H locs hP hD hS => ?_)
  refine lv_aload_n hx hb dX0_goIntoSet_27 rfl (lv_at hl 2 rfl) ?_
  refine lv_iload_n hx hb dX0_goIntoSet_28 rfl (lv_at hl 1 rfl) ?_
  refine kr_callVv (As := [.int (nI t)]) (rest := []) ⟨hx, hb, hml, hown, hts⟩ (c_mAdd l D gc ad ln (m_mSetFree (up2 (up2 iv (20 + 4 * mi + t) 2 (iv (28 + 2 * mi + mm) 1)) (20 + 4 * mi + t) 0 1) mi mm) lv mi mm hmi hmm (nI t) sz (by unfold m_mSetFree; rw [up2_k (by decide), up2_k (by decide), up2_ne (by omega), up2_ne (by omega)]; exact hsz) hs4) (cwV 1 hts (goodV (fun _ h => tcons h) tw_333 tw_334 tw_335 tw_5 tw_336) rfl rfl rfl (by decide +kernel) ⟨Nat.le_of_ble_eq_true rfl, Nat.le_of_ble_eq_true rfl⟩) (kr_recv hK hP (28 + 2 * mi + mm) (by omega) (E_mon (mi := mi) (m := mm) hmi hmm _ _ _ _) rfl) hK hP hD hS hA rfl hl.1 rfl (Nat.le_of_ble_eq_true rfl) dX0_goIntoSet_29 ⟨Nat.le_of_ble_eq_true rfl, Nat.le_of_ble_eq_true rfl⟩ (fun H locs hP hD hS => ?_)
  exact kr_vret hx hb hr hlocks hK hP hD hS rfl dX0_goIntoSet_32
def m_aNotify (iv : Nat → Nat → Int32) (mi mm : Nat) (k : Int32) (sz : Nat) : Nat → Nat → Int32 := if (r_mWaiter iv mi mm k) = (-1) then iv else (up2 (m_wPut (m_mDrop iv mi mm (r_mWaiter iv mi mm k) sz) mi ((r_mWaiter iv mi mm k).toNatClampNeg) 2) (20 + 4 * mi + ((r_mWaiter iv mi mm k).toNatClampNeg)) 0 2)
set_option maxHeartbeats 4000000 in
set_option maxRecDepth 100000 in
theorem c_aNotify (l : Launch) (D : va_G) (gc : Nat → ClassId) (ad ln : Nat → Nat) (iv : Nat → Nat → Int32) (lv : Nat → Nat → Int64) (mi mm : Nat) (hmi : mi < 2) (hmm : mm < 2) (k : Int32) (sz : Nat) (hsz : iv (28 + 2 * mi + mm) 2 = nI sz) (hs4 : sz ≤ 4) (hent : ∀ j, j < sz → vp_in (iv (32 + 2 * mi + mm) j) 4) : kMv l yX0_notifyWaiter wX0_notifyWaiter ({ frames := 1, cells := 0, slots := 0, locals := 23 }) D vwCl (kT gc) 42 (kE gc) [.ref (ad (14 + mi)), .ref (ad (28 + 2 * mi + mm)), .int k] (ad, ln, iv, lv) (ad, ln, m_aNotify iv mi mm k sz, lv) := by
  refine kv_start (cc := cX0_notifyWaiter) (maxL := 4) (by decide) rfl (Nat.le_of_ble_eq_true rfl) ?_
  intro p9 e9 s m9 below meth c9 A ls hx hb hr hts hown hlocks hml hA hK hP hD hS hl
  have hl : lv_has ls 4 [(0, .ref (ad (14 + mi))), (1, .ref (ad (28 + 2 * mi + mm))), (2, .int k)] := hl
  have hown : s.vm.findClass "MonitorWays$Machine" = some m9.cls := hown
  have hin_X0 : ∀ w ∈ u_ws "MonitorWays$Machine" TX0 3, w ∈ wX0_notifyWaiter := fun w h => tcons (inX0 w h)
  have hin_X5 : ∀ w ∈ u_ws "MonitorWays$Worker" TX5 8, w ∈ wX0_notifyWaiter := fun w h => tcons (inX5 w h)
  have lk_f11 := hts _ (tcons tw_126)
  have lk_f36 := hts _ (tcons tw_58)
  refine lv_aload_n hx hb dX0_notifyWaiter_0 rfl (lv_at hl 1 rfl) ?_
  refine lv_iload_n hx hb dX0_notifyWaiter_1 rfl (lv_at hl 2 rfl) ?_
  refine kr_callVi (As := [.int k]) (rest := []) ⟨hx, hb, hml, hown, hts⟩ (c_mWaiter l D gc ad ln iv lv mi mm hmi hmm k sz hsz hs4) (cwV 1 hts (goodV (fun _ h => tcons h) tw_316 tw_317 tw_318 tw_5 tw_319) rfl rfl rfl (by decide +kernel) ⟨Nat.le_of_ble_eq_true rfl, Nat.le_of_ble_eq_true rfl⟩) (kr_recv hK hP (28 + 2 * mi + mm) (by omega) (E_mon (mi := mi) (m := mm) hmi hmm _ _ _ _) rfl) hK hP hD hS hA rfl hl.1 rfl (Nat.le_of_ble_eq_true rfl) dX0_notifyWaiter_2 ⟨Nat.le_of_ble_eq_true rfl, Nat.le_of_ble_eq_true rfl⟩ (fun H locs hP hD hS => ?_)
  refine lv_istore_n (lv' := [(3, .int (r_mWaiter iv mi mm k)), (0, .ref (ad (14 + mi))), (1, .ref (ad (28 + 2 * mi + mm))), (2, .int k)]) hx hb dX0_notifyWaiter_5 rfl hl (by decide) rfl (fun ls hl => ?_)
  refine lv_iload_n hx hb dX0_notifyWaiter_6 rfl (lv_at hl 0 rfl) ?_
  refine lv_iconst (v := (-1)) hx hb dX0_notifyWaiter_7 (by decide) ?_
  refine lv_icmp_eq (tgt := 36) hx hb dX0_notifyWaiter_8 (by decide) (fun c_1 => ?_) (fun c_1 => ?_)
  · exact kr_vret hx hb hr hlocks hK hP hD hS (by unfold m_aNotify; rw [if_pos c_1]) dX0_notifyWaiter_36
  · have hv := hv_of hsz hs4 hent c_1
    have hv4 := vn_lt hv
    refine lv_aload_n hx hb dX0_notifyWaiter_11 rfl (lv_at hl 2 rfl) ?_
    refine lv_iload_n hx hb dX0_notifyWaiter_12 rfl (lv_at hl 0 rfl) ?_
    refine kr_callVv (As := [.int (r_mWaiter iv mi mm k)]) (rest := []) ⟨hx, hb, hml, hown, hts⟩ (c_mDrop l D gc ad ln iv lv mi mm hmi hmm (r_mWaiter iv mi mm k) sz hsz hs4) (cwV 1 hts (goodV (fun _ h => tcons h) tw_320 tw_321 tw_322 tw_5 tw_323) rfl rfl rfl (by decide +kernel) ⟨Nat.le_of_ble_eq_true rfl, Nat.le_of_ble_eq_true rfl⟩) (kr_recv hK hP (28 + 2 * mi + mm) (by omega) (E_mon (mi := mi) (m := mm) hmi hmm _ _ _ _) rfl) hK hP hD hS hA rfl hl.1 rfl (Nat.le_of_ble_eq_true rfl) dX0_notifyWaiter_13 ⟨Nat.le_of_ble_eq_true rfl, Nat.le_of_ble_eq_true rfl⟩ (fun H locs hP hD hS => ?_)
    refine lv_aload_n hx hb dX0_notifyWaiter_16 rfl (lv_at hl 1 rfl) ?_
    refine kr_get (C := "MonitorWays$Machine") (T := TX0) (N := 3) hx hb hts hin_X0 hown hK hP (14 + mi) (by omega) (E_mach hmi _ _ _ _) rfl 0 (by decide) lk_f11 (fun _ h9 => h9) rfl dX0_notifyWaiter_17 ?_
    refine lv_iload_n hx hb dX0_notifyWaiter_20 rfl (lv_at hl 0 rfl) ?_
    refine kr_aald (a := ad (20 + 4 * mi + ((r_mWaiter iv mi mm k).toNatClampNeg))) hx hb hK hP (16 + mi) 4 (by omega) (E_warr hmi _ _ _ _) rfl hv rfl dX0_notifyWaiter_21 ?_
    refine lv_iconst (v := 2) hx hb dX0_notifyWaiter_22 (by decide) ?_
    refine kr_callVv (As := [.int 2]) (rest := []) ⟨hx, hb, hml, hown, hts⟩ (c_wPut l D gc ad ln (m_mDrop iv mi mm (r_mWaiter iv mi mm k) sz) lv mi ((r_mWaiter iv mi mm k).toNatClampNeg) hmi hv4 2) (cwV 1 hts (goodV (fun _ h => tcons h) tw_304 tw_305 tw_306 tw_4 tw_307) rfl rfl rfl (by decide +kernel) ⟨Nat.le_of_ble_eq_true rfl, Nat.le_of_ble_eq_true rfl⟩) (kr_recv hK hP (20 + 4 * mi + ((r_mWaiter iv mi mm k).toNatClampNeg)) (by omega) (E_wk (mi := mi) (t := (r_mWaiter iv mi mm k).toNatClampNeg) hmi hv4 _ _ _ _) rfl) hK hP hD hS hA rfl hl.1 rfl (Nat.le_of_ble_eq_true rfl) dX0_notifyWaiter_23 ⟨Nat.le_of_ble_eq_true rfl, Nat.le_of_ble_eq_true rfl⟩ (fun H locs hP hD hS => ?_)
    refine lv_aload_n hx hb dX0_notifyWaiter_26 rfl (lv_at hl 1 rfl) ?_
    refine kr_get (C := "MonitorWays$Machine") (T := TX0) (N := 3) hx hb hts hin_X0 hown hK hP (14 + mi) (by omega) (E_mach hmi _ _ _ _) rfl 0 (by decide) lk_f11 (fun _ h9 => h9) rfl dX0_notifyWaiter_27 ?_
    refine lv_iload_n hx hb dX0_notifyWaiter_30 rfl (lv_at hl 0 rfl) ?_
    refine kr_aald (a := ad (20 + 4 * mi + ((r_mWaiter iv mi mm k).toNatClampNeg))) hx hb hK hP (16 + mi) 4 (by omega) (E_warr hmi _ _ _ _) rfl hv rfl dX0_notifyWaiter_31 ?_
    refine lv_iconst (v := 2) hx hb dX0_notifyWaiter_32 (by decide) ?_
    refine kr_put (C := "MonitorWays$Worker") (T := TX5) (N := 8) hx hb hts hin_X5 tyX5 ok_tyX5 ok_nX5 hown hK hP hD hS (20 + 4 * mi + ((r_mWaiter iv mi mm k).toNatClampNeg)) (by omega) (fun _ => E_wk (mi := mi) (t := (r_mWaiter iv mi mm k).toNatClampNeg) hmi hv4 _ _ _ _) rfl 0 (by decide) lk_f36 (fun _ h9 => h9) rfl rfl rfl rfl (fun _ => Nat.le_of_ble_eq_true rfl) (fun _ => rfl) dX0_notifyWaiter_33 (fun H locs hP hD hS => ?_)
    exact kr_vret hx hb hr hlocks hK hP hD hS (by unfold m_aNotify; rw [if_neg c_1]) dX0_notifyWaiter_36
def m_aBack (iv : Nat → Nat → Int32) (mi t mm : Nat) : Nat → Nat → Int32 := (m_wRunOn (up2 (m_mOwn iv mi mm (nI t) (iv (20 + 4 * mi + t) 2)) (20 + 4 * mi + t) 2 0) mi t)
set_option maxHeartbeats 4000000 in
set_option maxRecDepth 100000 in
theorem c_aBack (l : Launch) (D : va_G) (gc : Nat → ClassId) (ad ln : Nat → Nat) (iv : Nat → Nat → Int32) (lv : Nat → Nat → Int64) (mi t mm : Nat) (hmi : mi < 2) (ht : t < 4) (hmm : mm < 2) (hpl : vp_in (iv (20 + 4 * mi + t) 1) 6) (hop : r_wOperand iv mi t = nI mm) : kMv l yX0_comeBack wX0_comeBack ({ frames := 2, cells := 0, slots := 0, locals := 41 }) D vwCl (kT gc) 42 (kE gc) [.ref (ad (14 + mi)), .int (nI t)] (ad, ln, iv, lv) (ad, ln, m_aBack iv mi t mm, lv) := by
  refine kv_start (cc := cX0_comeBack) (maxL := 3) (by decide) rfl (Nat.le_of_ble_eq_true rfl) ?_
  intro p9 e9 s m9 below meth c9 A ls hx hb hr hts hown hlocks hml hA hK hP hD hS hl
  have hl : lv_has ls 3 [(0, .ref (ad (14 + mi))), (1, .int (nI t))] := hl
  have hown : s.vm.findClass "MonitorWays$Machine" = some m9.cls := hown
  have hin_X0 : ∀ w ∈ u_ws "MonitorWays$Machine" TX0 3, w ∈ wX0_comeBack := fun w h => tcons (inX0 w h)
  have hin_X5 : ∀ w ∈ u_ws "MonitorWays$Worker" TX5 8, w ∈ wX0_comeBack := fun w h => tcons (inX5 w h)
  have lk_f11 := hts _ (tcons tw_126)
  have lk_f131 := hts _ (tcons tw_61)
  refine lv_aload_n hx hb dX0_comeBack_0 rfl (lv_at hl 0 rfl) ?_
  refine kr_get (C := "MonitorWays$Machine") (T := TX0) (N := 3) hx hb hts hin_X0 hown hK hP (14 + mi) (by omega) (E_mach hmi _ _ _ _) rfl 0 (by decide) lk_f11 (fun _ h9 => h9) rfl dX0_comeBack_1 ?_
  refine lv_iload_n hx hb dX0_comeBack_4 rfl (lv_at hl 1 rfl) ?_
  refine kr_aald (a := ad (20 + 4 * mi + t)) hx hb hK hP (16 + mi) 4 (by omega) (E_warr hmi _ _ _ _) rfl (vp_in_nI (n := t) (by omega) (by decide)) (by rw [nI_clamp (show t < 2 ^ 31 by omega)]) dX0_comeBack_5 ?_
  refine lv_astore_n (lv' := [(2, .ref (ad (20 + 4 * mi + t))), (0, .ref (ad (14 + mi))), (1, .int (nI t))]) hx hb dX0_comeBack_6 rfl hl (by decide) rfl (fun ls hl => ?_)
  refine lv_aload_n hx hb dX0_comeBack_7 rfl (lv_at hl 1 rfl) ?_
  refine lv_aload_n hx hb dX0_comeBack_8 rfl (lv_at hl 0 rfl) ?_
  refine kr_callVr (As := [.ref (ad (20 + 4 * mi + t))]) (rest := []) ⟨hx, hb, hml, hown, hts⟩ (c_aMonOf l D gc ad ln iv lv mi t mm hmi (by omega) hmm hpl hop) (cwV 1 hts (goodV (fun _ h => tcons h) tw_264 tw_266 ts_2 tw_3 tw_267) rfl rfl rfl (by decide +kernel) ⟨Nat.le_of_ble_eq_true rfl, Nat.le_of_ble_eq_true rfl⟩) (kr_recv hK hP (14 + mi) (by omega) (E_mach hmi _ _ _ _) rfl) hK hP hD hS hA rfl hl.1 rfl (Nat.le_of_ble_eq_true rfl) dX0_comeBack_9 ⟨Nat.le_of_ble_eq_true rfl, Nat.le_of_ble_eq_true rfl⟩ (fun H locs hP hD hS => ?_)
  refine lv_iload_n hx hb dX0_comeBack_12 rfl (lv_at hl 2 rfl) ?_
  refine lv_aload_n hx hb dX0_comeBack_13 rfl (lv_at hl 0 rfl) ?_
  refine kr_get (C := "MonitorWays$Worker") (T := TX5) (N := 8) hx hb hts hin_X5 hown hK hP (20 + 4 * mi + t) (by omega) (E_wk (mi := mi) (t := t) hmi (by omega) _ _ _ _) rfl 2 (by decide) lk_f131 (fun _ h9 => h9) rfl dX0_comeBack_14 ?_
  refine kr_callVv (As := [.int (nI t), .int (iv (20 + 4 * mi + t) 2)]) (rest := []) ⟨hx, hb, hml, hown, hts⟩ (c_mOwn l D gc ad ln iv lv mi mm hmi hmm (nI t) (iv (20 + 4 * mi + t) 2)) (cwV 2 hts (goodV (fun _ h => tcons h) tw_300 tw_301 tw_302 tw_5 tw_303) rfl rfl rfl (by decide +kernel) ⟨Nat.le_of_ble_eq_true rfl, Nat.le_of_ble_eq_true rfl⟩) (kr_recv hK hP (28 + 2 * mi + mm) (by omega) (E_mon (mi := mi) (m := mm) hmi hmm _ _ _ _) rfl) hK hP hD hS hA rfl hl.1 rfl (Nat.le_of_ble_eq_true rfl) dX0_comeBack_17 ⟨Nat.le_of_ble_eq_true rfl, Nat.le_of_ble_eq_true rfl⟩ (fun H locs hP hD hS => ?_)
  refine lv_aload_n hx hb dX0_comeBack_20 rfl (lv_at hl 0 rfl) ?_
  refine lv_iconst (v := 0) hx hb dX0_comeBack_21 (by decide) ?_
  refine kr_put (C := "MonitorWays$Worker") (T := TX5) (N := 8) hx hb hts hin_X5 tyX5 ok_tyX5 ok_nX5 hown hK hP hD hS (20 + 4 * mi + t) (by omega) (fun _ => E_wk (mi := mi) (t := t) hmi (by omega) _ _ _ _) rfl 2 (by decide) lk_f131 (fun _ h9 => h9) rfl rfl rfl rfl (fun _ => Nat.le_of_ble_eq_true rfl) (fun _ => rfl) dX0_comeBack_22 (fun H locs hP hD hS => ?_)
  refine lv_aload_n hx hb dX0_comeBack_25 rfl (lv_at hl 0 rfl) ?_
  refine kr_callVv (As := []) (rest := []) ⟨hx, hb, hml, hown, hts⟩ (c_wRunOn l D gc ad ln (up2 (m_mOwn iv mi mm (nI t) (iv (20 + 4 * mi + t) 2)) (20 + 4 * mi + t) 2 0) lv mi t hmi (by omega)) (cwV 0 hts (goodV (fun _ h => tcons h) tw_337 tw_338 tw_339 tw_4 tw_340) rfl rfl rfl (by decide +kernel) ⟨Nat.le_of_ble_eq_true rfl, Nat.le_of_ble_eq_true rfl⟩) (kr_recv hK hP (20 + 4 * mi + t) (by omega) (E_wk (mi := mi) (t := t) hmi (by omega) _ _ _ _) rfl) hK hP hD hS hA rfl hl.1 rfl (Nat.le_of_ble_eq_true rfl) dX0_comeBack_26 ⟨Nat.le_of_ble_eq_true rfl, Nat.le_of_ble_eq_true rfl⟩ (fun H locs hP hD hS => ?_)
  exact kr_vret hx hb hr hlocks hK hP hD hS rfl dX0_comeBack_29
def m_aLeave (iv : Nat → Nat → Int32) (mi t mm : Nat) (way : Int32) (sz : Nat) : Nat → Nat → Int32 := if way = 1 then (up2 (m_mDrop (m_wPut (up2 iv (20 + 4 * mi + t) 3 0) mi t 1) mi mm (nI t) sz) (20 + 4 * mi + t) 0 2) else if way = 2 then (up2 (m_mDrop (up2 iv (20 + 4 * mi + t) 5 1) mi mm (nI t) sz) (20 + 4 * mi + t) 0 2) else (up2 (m_mDrop (m_wPut iv mi t 3) mi mm (nI t) sz) (20 + 4 * mi + t) 0 2)
set_option maxHeartbeats 4000000 in
set_option maxRecDepth 100000 in
theorem c_aLeave (l : Launch) (D : va_G) (gc : Nat → ClassId) (ad ln : Nat → Nat) (iv : Nat → Nat → Int32) (lv : Nat → Nat → Int64) (mi t mm : Nat) (hmi : mi < 2) (ht : t < 4) (hmm : mm < 2) (way : Int32) (hpl : vp_in (iv (20 + 4 * mi + t) 1) 6) (hop : r_wOperand iv mi t = nI mm) (sz : Nat) (hsz : iv (28 + 2 * mi + mm) 2 = nI sz) (hs4 : sz ≤ 4) : kMv l yX0_leaveSetAlone wX0_leaveSetAlone ({ frames := 2, cells := 0, slots := 0, locals := 41 }) D vwCl (kT gc) 42 (kE gc) [.ref (ad (14 + mi)), .int (nI t), .int way] (ad, ln, iv, lv) (ad, ln, m_aLeave iv mi t mm way sz, lv) := by
  refine kv_start (cc := cX0_leaveSetAlone) (maxL := 4) (by decide) rfl (Nat.le_of_ble_eq_true rfl) ?_
  intro p9 e9 s m9 below meth c9 A ls hx hb hr hts hown hlocks hml hA hK hP hD hS hl
  have hl : lv_has ls 4 [(0, .ref (ad (14 + mi))), (1, .int (nI t)), (2, .int way)] := hl
  have hown : s.vm.findClass "MonitorWays$Machine" = some m9.cls := hown
  have hin_X0 : ∀ w ∈ u_ws "MonitorWays$Machine" TX0 3, w ∈ wX0_leaveSetAlone := fun w h => tcons (inX0 w h)
  have hin_X5 : ∀ w ∈ u_ws "MonitorWays$Worker" TX5 8, w ∈ wX0_leaveSetAlone := fun w h => tcons (inX5 w h)
  have lk_f11 := hts _ (tcons tw_126)
  have lk_f36 := hts _ (tcons tw_58)
  have lk_f83 := hts _ (tcons tw_67)
  have lk_f63 := hts _ (tcons tw_63)
  refine lv_aload_n hx hb dX0_leaveSetAlone_0 rfl (lv_at hl 0 rfl) ?_
  refine kr_get (C := "MonitorWays$Machine") (T := TX0) (N := 3) hx hb hts hin_X0 hown hK hP (14 + mi) (by omega) (E_mach hmi _ _ _ _) rfl 0 (by decide) lk_f11 (fun _ h9 => h9) rfl dX0_leaveSetAlone_1 ?_
  refine lv_iload_n hx hb dX0_leaveSetAlone_4 rfl (lv_at hl 1 rfl) ?_
  refine kr_aald (a := ad (20 + 4 * mi + t)) hx hb hK hP (16 + mi) 4 (by omega) (E_warr hmi _ _ _ _) rfl (vp_in_nI (n := t) (by omega) (by decide)) (by rw [nI_clamp (show t < 2 ^ 31 by omega)]) dX0_leaveSetAlone_5 ?_
  refine lv_astore_n (lv' := [(3, .ref (ad (20 + 4 * mi + t))), (0, .ref (ad (14 + mi))), (1, .int (nI t)), (2, .int way)]) hx hb dX0_leaveSetAlone_6 rfl hl (by decide) rfl (fun ls hl => ?_)
  refine lv_iload_n hx hb dX0_leaveSetAlone_7 rfl (lv_at hl 3 rfl) ?_
  refine lv_iconst (v := 1) hx hb dX0_leaveSetAlone_8 (by decide) ?_
  refine lv_icmp_ne (tgt := 25) hx hb dX0_leaveSetAlone_9 (by decide) (fun c_1 => ?_) (fun c_1 => ?_)
  · refine lv_iload_n hx hb dX0_leaveSetAlone_25 rfl (lv_at hl 3 rfl) ?_
    refine lv_iconst (v := 2) hx hb dX0_leaveSetAlone_26 (by decide) ?_
    refine lv_icmp_ne (tgt := 38) hx hb dX0_leaveSetAlone_27 (by decide) (fun c_2 => ?_) (fun c_2 => ?_)
    · refine lv_aload_n hx hb dX0_leaveSetAlone_38 rfl (lv_at hl 0 rfl) ?_
      refine lv_iconst (v := 3) hx hb dX0_leaveSetAlone_39 (by decide) ?_
      refine kr_callVv (As := [.int 3]) (rest := []) ⟨hx, hb, hml, hown, hts⟩ (c_wPut l D gc ad ln iv lv mi t hmi (by omega) 3) (cwV 1 hts (goodV (fun _ h => tcons h) tw_304 tw_305 tw_306 tw_4 tw_307) rfl rfl rfl (by decide +kernel) ⟨Nat.le_of_ble_eq_true rfl, Nat.le_of_ble_eq_true rfl⟩) (kr_recv hK hP (20 + 4 * mi + t) (by omega) (E_wk (mi := mi) (t := t) hmi (by omega) _ _ _ _) rfl) hK hP hD hS hA rfl hl.1 rfl (Nat.le_of_ble_eq_true rfl) dX0_leaveSetAlone_40 ⟨Nat.le_of_ble_eq_true rfl, Nat.le_of_ble_eq_true rfl⟩ (fun H locs hP hD hS => ?_)
      have q1 : (m_wPut iv mi t 3) (20 + 4 * mi + t) 1 = iv (20 + 4 * mi + t) 1 := by (try unfold m_wPut); repeat rw [up2_k (by decide)]
      have q2 : (m_wPut iv mi t 3) (10 + t) = iv (10 + t) := by (try unfold m_wPut); repeat rw [up2_c (by omega)]
      have q3 : (m_wPut iv mi t 3) (28 + 2 * mi + mm) 2 = nI sz := by (try unfold m_wPut); (repeat rw [up2_ne (by omega)]); exact hsz
      have q4 : vp_in ((m_wPut iv mi t 3) (20 + 4 * mi + t) 1) 6 := q1 ▸ hpl
      have q5 : r_wOperand (m_wPut iv mi t 3) mi t = nI mm := by rw [← hop]; unfold r_wOperand; rw [q1, q2]
      refine lv_aload_n hx hb dX0_leaveSetAlone_43 rfl (lv_at hl 1 rfl) ?_
      refine lv_aload_n hx hb dX0_leaveSetAlone_44 rfl (lv_at hl 0 rfl) ?_
      refine kr_callVr (As := [.ref (ad (20 + 4 * mi + t))]) (rest := []) ⟨hx, hb, hml, hown, hts⟩ (c_aMonOf l D gc ad ln (m_wPut iv mi t 3) lv mi t mm hmi (by omega) hmm q4 q5) (cwV 1 hts (goodV (fun _ h => tcons h) tw_264 tw_266 ts_2 tw_3 tw_267) rfl rfl rfl (by decide +kernel) ⟨Nat.le_of_ble_eq_true rfl, Nat.le_of_ble_eq_true rfl⟩) (kr_recv hK hP (14 + mi) (by omega) (E_mach hmi _ _ _ _) rfl) hK hP hD hS hA rfl hl.1 rfl (Nat.le_of_ble_eq_true rfl) dX0_leaveSetAlone_45 ⟨Nat.le_of_ble_eq_true rfl, Nat.le_of_ble_eq_true rfl⟩ (fun H locs hP hD hS => ?_)
      refine lv_iload_n hx hb dX0_leaveSetAlone_48 rfl (lv_at hl 2 rfl) ?_
      refine kr_callVv (As := [.int (nI t)]) (rest := []) ⟨hx, hb, hml, hown, hts⟩ (c_mDrop l D gc ad ln (m_wPut iv mi t 3) lv mi mm hmi hmm (nI t) sz q3 hs4) (cwV 1 hts (goodV (fun _ h => tcons h) tw_320 tw_321 tw_322 tw_5 tw_323) rfl rfl rfl (by decide +kernel) ⟨Nat.le_of_ble_eq_true rfl, Nat.le_of_ble_eq_true rfl⟩) (kr_recv hK hP (28 + 2 * mi + mm) (by omega) (E_mon (mi := mi) (m := mm) hmi hmm _ _ _ _) rfl) hK hP hD hS hA rfl hl.1 rfl (Nat.le_of_ble_eq_true rfl) dX0_leaveSetAlone_49 ⟨Nat.le_of_ble_eq_true rfl, Nat.le_of_ble_eq_true rfl⟩ (fun H locs hP hD hS => ?_)
      refine lv_aload_n hx hb dX0_leaveSetAlone_52 rfl (lv_at hl 0 rfl) ?_
      refine lv_iconst (v := 2) hx hb dX0_leaveSetAlone_53 (by decide) ?_
      refine kr_put (C := "MonitorWays$Worker") (T := TX5) (N := 8) hx hb hts hin_X5 tyX5 ok_tyX5 ok_nX5 hown hK hP hD hS (20 + 4 * mi + t) (by omega) (fun _ => E_wk (mi := mi) (t := t) hmi (by omega) _ _ _ _) rfl 0 (by decide) lk_f36 (fun _ h9 => h9) rfl rfl rfl rfl (fun _ => Nat.le_of_ble_eq_true rfl) (fun _ => rfl) dX0_leaveSetAlone_54 (fun H locs hP hD hS => ?_)
      exact kr_vret hx hb hr hlocks hK hP hD hS (by unfold m_aLeave; rw [if_neg c_1, if_neg c_2]) dX0_leaveSetAlone_57
    · refine lv_aload_n hx hb dX0_leaveSetAlone_30 rfl (lv_at hl 0 rfl) ?_
      refine lv_iconst (v := 1) hx hb dX0_leaveSetAlone_31 (by decide) ?_
      refine kr_put (C := "MonitorWays$Worker") (T := TX5) (N := 8) hx hb hts hin_X5 tyX5 ok_tyX5 ok_nX5 hown hK hP hD hS (20 + 4 * mi + t) (by omega) (fun _ => E_wk (mi := mi) (t := t) hmi (by omega) _ _ _ _) rfl 5 (by decide) lk_f83 (fun _ h9 => h9) rfl rfl (by decide) (by decide) (fun _ => Nat.le_of_ble_eq_true rfl) (fun _ => rfl) dX0_leaveSetAlone_32 (fun H locs hP hD hS => ?_)
      refine lv_goto (tgt := 43) hx hb dX0_leaveSetAlone_35 (by decide) ?_
      have q1 : (up2 iv (20 + 4 * mi + t) 5 1) (20 + 4 * mi + t) 1 = iv (20 + 4 * mi + t) 1 := by (try unfold m_wPut); repeat rw [up2_k (by decide)]
      have q2 : (up2 iv (20 + 4 * mi + t) 5 1) (10 + t) = iv (10 + t) := by (try unfold m_wPut); repeat rw [up2_c (by omega)]
      have q3 : (up2 iv (20 + 4 * mi + t) 5 1) (28 + 2 * mi + mm) 2 = nI sz := by (try unfold m_wPut); (repeat rw [up2_ne (by omega)]); exact hsz
      have q4 : vp_in ((up2 iv (20 + 4 * mi + t) 5 1) (20 + 4 * mi + t) 1) 6 := q1 ▸ hpl
      have q5 : r_wOperand (up2 iv (20 + 4 * mi + t) 5 1) mi t = nI mm := by rw [← hop]; unfold r_wOperand; rw [q1, q2]
      refine lv_aload_n hx hb dX0_leaveSetAlone_43 rfl (lv_at hl 1 rfl) ?_
      refine lv_aload_n hx hb dX0_leaveSetAlone_44 rfl (lv_at hl 0 rfl) ?_
      refine kr_callVr (As := [.ref (ad (20 + 4 * mi + t))]) (rest := []) ⟨hx, hb, hml, hown, hts⟩ (c_aMonOf l D gc ad ln (up2 iv (20 + 4 * mi + t) 5 1) lv mi t mm hmi (by omega) hmm q4 q5) (cwV 1 hts (goodV (fun _ h => tcons h) tw_264 tw_266 ts_2 tw_3 tw_267) rfl rfl rfl (by decide +kernel) ⟨Nat.le_of_ble_eq_true rfl, Nat.le_of_ble_eq_true rfl⟩) (kr_recv hK hP (14 + mi) (by omega) (E_mach hmi _ _ _ _) rfl) hK hP hD hS hA rfl hl.1 rfl (Nat.le_of_ble_eq_true rfl) dX0_leaveSetAlone_45 ⟨Nat.le_of_ble_eq_true rfl, Nat.le_of_ble_eq_true rfl⟩ (fun H locs hP hD hS => ?_)
      refine lv_iload_n hx hb dX0_leaveSetAlone_48 rfl (lv_at hl 2 rfl) ?_
      refine kr_callVv (As := [.int (nI t)]) (rest := []) ⟨hx, hb, hml, hown, hts⟩ (c_mDrop l D gc ad ln (up2 iv (20 + 4 * mi + t) 5 1) lv mi mm hmi hmm (nI t) sz q3 hs4) (cwV 1 hts (goodV (fun _ h => tcons h) tw_320 tw_321 tw_322 tw_5 tw_323) rfl rfl rfl (by decide +kernel) ⟨Nat.le_of_ble_eq_true rfl, Nat.le_of_ble_eq_true rfl⟩) (kr_recv hK hP (28 + 2 * mi + mm) (by omega) (E_mon (mi := mi) (m := mm) hmi hmm _ _ _ _) rfl) hK hP hD hS hA rfl hl.1 rfl (Nat.le_of_ble_eq_true rfl) dX0_leaveSetAlone_49 ⟨Nat.le_of_ble_eq_true rfl, Nat.le_of_ble_eq_true rfl⟩ (fun H locs hP hD hS => ?_)
      refine lv_aload_n hx hb dX0_leaveSetAlone_52 rfl (lv_at hl 0 rfl) ?_
      refine lv_iconst (v := 2) hx hb dX0_leaveSetAlone_53 (by decide) ?_
      refine kr_put (C := "MonitorWays$Worker") (T := TX5) (N := 8) hx hb hts hin_X5 tyX5 ok_tyX5 ok_nX5 hown hK hP hD hS (20 + 4 * mi + t) (by omega) (fun _ => E_wk (mi := mi) (t := t) hmi (by omega) _ _ _ _) rfl 0 (by decide) lk_f36 (fun _ h9 => h9) rfl rfl rfl rfl (fun _ => Nat.le_of_ble_eq_true rfl) (fun _ => rfl) dX0_leaveSetAlone_54 (fun H locs hP hD hS => ?_)
      exact kr_vret hx hb hr hlocks hK hP hD hS (by unfold m_aLeave; rw [if_neg c_1, if_pos c_2]) dX0_leaveSetAlone_57
  · refine lv_aload_n hx hb dX0_leaveSetAlone_12 rfl (lv_at hl 0 rfl) ?_
    refine lv_iconst (v := 0) hx hb dX0_leaveSetAlone_13 (by decide) ?_
    refine kr_put (C := "MonitorWays$Worker") (T := TX5) (N := 8) hx hb hts hin_X5 tyX5 ok_tyX5 ok_nX5 hown hK hP hD hS (20 + 4 * mi + t) (by omega) (fun _ => E_wk (mi := mi) (t := t) hmi (by omega) _ _ _ _) rfl 3 (by decide) lk_f63 (fun _ h9 => h9) rfl rfl (by decide) (by decide) (fun _ => Nat.le_of_ble_eq_true rfl) (fun _ => rfl) dX0_leaveSetAlone_14 (fun H locs hP hD hS => ?_)
    refine lv_aload_n hx hb dX0_leaveSetAlone_17 rfl (lv_at hl 0 rfl) ?_
    refine lv_iconst (v := 1) hx hb dX0_leaveSetAlone_18 (by decide) ?_
    refine kr_callVv (As := [.int 1]) (rest := []) ⟨hx, hb, hml, hown, hts⟩ (c_wPut l D gc ad ln (up2 iv (20 + 4 * mi + t) 3 0) lv mi t hmi (by omega) 1) (cwV 1 hts (goodV (fun _ h => tcons h) tw_304 tw_305 tw_306 tw_4 tw_307) rfl rfl rfl (by decide +kernel) ⟨Nat.le_of_ble_eq_true rfl, Nat.le_of_ble_eq_true rfl⟩) (kr_recv hK hP (20 + 4 * mi + t) (by omega) (E_wk (mi := mi) (t := t) hmi (by omega) _ _ _ _) rfl) hK hP hD hS hA rfl hl.1 rfl (Nat.le_of_ble_eq_true rfl) dX0_leaveSetAlone_19 ⟨Nat.le_of_ble_eq_true rfl, Nat.le_of_ble_eq_true rfl⟩ (fun H locs hP hD hS => ?_)
    refine lv_goto (tgt := 43) hx hb dX0_leaveSetAlone_22 (by decide) ?_
    have q1 : (m_wPut (up2 iv (20 + 4 * mi + t) 3 0) mi t 1) (20 + 4 * mi + t) 1 = iv (20 + 4 * mi + t) 1 := by (try unfold m_wPut); repeat rw [up2_k (by decide)]
    have q2 : (m_wPut (up2 iv (20 + 4 * mi + t) 3 0) mi t 1) (10 + t) = iv (10 + t) := by (try unfold m_wPut); repeat rw [up2_c (by omega)]
    have q3 : (m_wPut (up2 iv (20 + 4 * mi + t) 3 0) mi t 1) (28 + 2 * mi + mm) 2 = nI sz := by (try unfold m_wPut); (repeat rw [up2_ne (by omega)]); exact hsz
    have q4 : vp_in ((m_wPut (up2 iv (20 + 4 * mi + t) 3 0) mi t 1) (20 + 4 * mi + t) 1) 6 := q1 ▸ hpl
    have q5 : r_wOperand (m_wPut (up2 iv (20 + 4 * mi + t) 3 0) mi t 1) mi t = nI mm := by rw [← hop]; unfold r_wOperand; rw [q1, q2]
    refine lv_aload_n hx hb dX0_leaveSetAlone_43 rfl (lv_at hl 1 rfl) ?_
    refine lv_aload_n hx hb dX0_leaveSetAlone_44 rfl (lv_at hl 0 rfl) ?_
    refine kr_callVr (As := [.ref (ad (20 + 4 * mi + t))]) (rest := []) ⟨hx, hb, hml, hown, hts⟩ (c_aMonOf l D gc ad ln (m_wPut (up2 iv (20 + 4 * mi + t) 3 0) mi t 1) lv mi t mm hmi (by omega) hmm q4 q5) (cwV 1 hts (goodV (fun _ h => tcons h) tw_264 tw_266 ts_2 tw_3 tw_267) rfl rfl rfl (by decide +kernel) ⟨Nat.le_of_ble_eq_true rfl, Nat.le_of_ble_eq_true rfl⟩) (kr_recv hK hP (14 + mi) (by omega) (E_mach hmi _ _ _ _) rfl) hK hP hD hS hA rfl hl.1 rfl (Nat.le_of_ble_eq_true rfl) dX0_leaveSetAlone_45 ⟨Nat.le_of_ble_eq_true rfl, Nat.le_of_ble_eq_true rfl⟩ (fun H locs hP hD hS => ?_)
    refine lv_iload_n hx hb dX0_leaveSetAlone_48 rfl (lv_at hl 2 rfl) ?_
    refine kr_callVv (As := [.int (nI t)]) (rest := []) ⟨hx, hb, hml, hown, hts⟩ (c_mDrop l D gc ad ln (m_wPut (up2 iv (20 + 4 * mi + t) 3 0) mi t 1) lv mi mm hmi hmm (nI t) sz q3 hs4) (cwV 1 hts (goodV (fun _ h => tcons h) tw_320 tw_321 tw_322 tw_5 tw_323) rfl rfl rfl (by decide +kernel) ⟨Nat.le_of_ble_eq_true rfl, Nat.le_of_ble_eq_true rfl⟩) (kr_recv hK hP (28 + 2 * mi + mm) (by omega) (E_mon (mi := mi) (m := mm) hmi hmm _ _ _ _) rfl) hK hP hD hS hA rfl hl.1 rfl (Nat.le_of_ble_eq_true rfl) dX0_leaveSetAlone_49 ⟨Nat.le_of_ble_eq_true rfl, Nat.le_of_ble_eq_true rfl⟩ (fun H locs hP hD hS => ?_)
    refine lv_aload_n hx hb dX0_leaveSetAlone_52 rfl (lv_at hl 0 rfl) ?_
    refine lv_iconst (v := 2) hx hb dX0_leaveSetAlone_53 (by decide) ?_
    refine kr_put (C := "MonitorWays$Worker") (T := TX5) (N := 8) hx hb hts hin_X5 tyX5 ok_tyX5 ok_nX5 hown hK hP hD hS (20 + 4 * mi + t) (by omega) (fun _ => E_wk (mi := mi) (t := t) hmi (by omega) _ _ _ _) rfl 0 (by decide) lk_f36 (fun _ h9 => h9) rfl rfl rfl rfl (fun _ => Nat.le_of_ble_eq_true rfl) (fun _ => rfl) dX0_leaveSetAlone_54 (fun H locs hP hD hS => ?_)
    exact kr_vret hx hb hr hlocks hK hP hD hS (by unfold m_aLeave; rw [if_pos c_1]) dX0_leaveSetAlone_57
def m_aPlain (iv : Nat → Nat → Int32) (mi t u : Nat) : Nat → Nat → Int32 := if (r_wAction iv mi t) = 6 then (m_wRunOn (m_aIntr iv mi u) mi t) else if (r_wAction iv mi t) = 7 then if iv (20 + 4 * mi + t) 4 = 0 then if iv (20 + 4 * mi + t) 3 = 0 then (up2 iv (20 + 4 * mi + t) 0 3) else (m_wRunOn (up2 iv (20 + 4 * mi + t) 4 0) mi t) else (m_wRunOn (up2 iv (20 + 4 * mi + t) 4 0) mi t) else if (r_wAction iv mi t) = 8 then (m_wRunOn (m_aUnpark iv mi u) mi t) else if (r_wAction iv mi t) = 9 then if (r_wTakeInt iv mi t) = 0 then (m_wRunOn (m_wTakeInt iv mi t) mi t) else (m_wRunOn (m_wPut (m_wTakeInt iv mi t) mi t 1) mi t) else if (r_wAction iv mi t) = 10 then if (r_wTakeInt iv mi t) = 0 then (m_wRunOn (m_wTakeInt iv mi t) mi t) else (m_wRunOn (m_wPut (m_wTakeInt iv mi t) mi t 1) mi t) else if (r_wAction iv mi t) = 11 then (m_wRunOn (m_wPut iv mi t (8 + (r_wOperand iv mi t))) mi t) else if (r_wAction iv mi t) = 12 then (m_wRunOn (m_wPut (m_wTakeInt iv mi t) mi t (if (r_wTakeInt iv mi t) = 0 then (5 : Int32) else 4)) mi t) else (m_wRunOn iv mi t)
set_option maxHeartbeats 4000000 in
set_option maxRecDepth 100000 in
theorem c_aPlain (l : Launch) (D : va_G) (gc : Nat → ClassId) (ad ln : Nat → Nat) (iv : Nat → Nat → Int32) (lv : Nat → Nat → Int64) (mi t u : Nat) (hmi : mi < 2) (ht : t < 4) (hu : u < 4) (hpl : vp_in (iv (20 + 4 * mi + t) 1) 6) (hou : r_wAction iv mi t = 6 ∨ r_wAction iv mi t = 8 → r_wOperand iv mi t = nI u) (hz : narrow .boolean (.int (iv (20 + 4 * mi + t) 3)) = .int (iv (20 + 4 * mi + t) 3)) : kMv l yX0_doPlainAction wX0_doPlainAction ({ frames := 2, cells := 0, slots := 0, locals := 41 }) D vwCl (kT gc) 42 (kE gc) [.ref (ad (14 + mi)), .ref (ad (20 + 4 * mi + t))] (ad, ln, iv, lv) (ad, ln, m_aPlain iv mi t u, lv) := by
  refine kv_start (cc := cX0_doPlainAction) (maxL := 2) (by decide) rfl (Nat.le_of_ble_eq_true rfl) ?_
  intro p9 e9 s m9 below meth c9 A ls hx hb hr hts hown hlocks hml hA hK hP hD hS hl
  have hl : lv_has ls 2 [(0, .ref (ad (14 + mi))), (1, .ref (ad (20 + 4 * mi + t)))] := hl
  have hown : s.vm.findClass "MonitorWays$Machine" = some m9.cls := hown
  have hin_X0 : ∀ w ∈ u_ws "MonitorWays$Machine" TX0 3, w ∈ wX0_doPlainAction := fun w h => tcons (inX0 w h)
  have hin_X5 : ∀ w ∈ u_ws "MonitorWays$Worker" TX5 8, w ∈ wX0_doPlainAction := fun w h => tcons (inX5 w h)
  have lk_f11 := hts _ (tcons tw_126)
  have lk_f150 := hts _ (tcons tw_65)
  have lk_f63 := hts _ (tcons tw_63)
  have lk_f36 := hts _ (tcons tw_58)
  refine lv_aload_n hx hb dX0_doPlainAction_0 rfl (lv_at hl 1 rfl) ?_
  refine kr_callVi (As := []) (rest := []) ⟨hx, hb, hml, hown, hts⟩ (c_wAction l D gc ad ln iv lv mi t hmi ht hpl) (cwV 0 hts (goodV (fun _ h => tcons h) tw_256 tw_257 tw_258 tw_4 tw_259) rfl rfl rfl (by decide +kernel) ⟨Nat.le_of_ble_eq_true rfl, Nat.le_of_ble_eq_true rfl⟩) (kr_recv hK hP (20 + 4 * mi + t) (by omega) (E_wk (mi := mi) (t := t) hmi ht _ _ _ _) rfl) hK hP hD hS hA rfl hl.1 rfl (Nat.le_of_ble_eq_true rfl) dX0_doPlainAction_1 ⟨Nat.le_of_ble_eq_true rfl, Nat.le_of_ble_eq_true rfl⟩ (fun H locs hP hD hS => ?_)
  by_cases c_1 : (r_wAction iv mi t) = 6
  · refine lv_tableIn (tgt := 48) (off := 44) hx hb dX0_doPlainAction_4 (by rw [c_1]; decide) (by rw [c_1]; decide) (by rw [c_1]; decide) (by decide) ?_
    refine lv_aload_n hx hb dX0_doPlainAction_48 rfl (lv_at hl 0 rfl) ?_
    refine lv_aload_n hx hb dX0_doPlainAction_49 rfl (lv_at hl 0 rfl) ?_
    refine kr_get (C := "MonitorWays$Machine") (T := TX0) (N := 3) hx hb hts hin_X0 hown hK hP (14 + mi) (by omega) (E_mach hmi _ _ _ _) rfl 0 (by decide) lk_f11 (fun _ h9 => h9) rfl dX0_doPlainAction_50 ?_
    refine lv_aload_n hx hb dX0_doPlainAction_53 rfl (lv_at hl 1 rfl) ?_
    refine kr_callVi (As := []) (rest := [.ref (ad (16 + mi)), .ref (ad (14 + mi))]) ⟨hx, hb, hml, hown, hts⟩ (c_wOperand l D gc ad ln iv lv mi t hmi ht hpl) (cwV 0 hts (goodV (fun _ h => tcons h) tw_268 tw_269 tw_270 tw_4 tw_271) rfl rfl rfl (by decide +kernel) ⟨Nat.le_of_ble_eq_true rfl, Nat.le_of_ble_eq_true rfl⟩) (kr_recv hK hP (20 + 4 * mi + t) (by omega) (E_wk (mi := mi) (t := t) hmi ht _ _ _ _) rfl) hK hP hD hS hA rfl hl.1 rfl (Nat.le_of_ble_eq_true rfl) dX0_doPlainAction_54 ⟨Nat.le_of_ble_eq_true rfl, Nat.le_of_ble_eq_true rfl⟩ (fun H locs hP hD hS => ?_)
    refine kr_topi (y := nI u) (hou (Or.inl c_1)) ?_
    refine kr_aald (a := ad (20 + 4 * mi + u)) hx hb hK hP (16 + mi) 4 (by omega) (E_warr hmi _ _ _ _) rfl (vp_in_nI (n := u) (by omega) (by decide)) (by rw [nI_clamp (show u < 2 ^ 31 by omega)]) dX0_doPlainAction_57 ?_
    refine kr_callVv (As := [.ref (ad (20 + 4 * mi + u))]) (rest := []) ⟨hx, hb, hml, hown, hts⟩ (c_aIntr l D gc ad ln iv lv mi u hmi (by omega)) (cwV 1 hts (goodV (fun _ h => tcons h) tw_345 tw_347 ts_10 tw_3 tw_348) rfl rfl rfl (by decide +kernel) ⟨Nat.le_of_ble_eq_true rfl, Nat.le_of_ble_eq_true rfl⟩) (kr_recv hK hP (14 + mi) (by omega) (E_mach hmi _ _ _ _) rfl) hK hP hD hS hA rfl hl.1 rfl (Nat.le_of_ble_eq_true rfl) dX0_doPlainAction_58 ⟨Nat.le_of_ble_eq_true rfl, Nat.le_of_ble_eq_true rfl⟩ (fun H locs hP hD hS => ?_)
    refine lv_goto (tgt := 156) hx hb dX0_doPlainAction_61 (by decide) ?_
    refine lv_aload_n hx hb dX0_doPlainAction_156 rfl (lv_at hl 1 rfl) ?_
    refine kr_callVv (As := []) (rest := []) ⟨hx, hb, hml, hown, hts⟩ (c_wRunOn l D gc ad ln (m_aIntr iv mi u) lv mi t hmi ht) (cwV 0 hts (goodV (fun _ h => tcons h) tw_337 tw_338 tw_339 tw_4 tw_340) rfl rfl rfl (by decide +kernel) ⟨Nat.le_of_ble_eq_true rfl, Nat.le_of_ble_eq_true rfl⟩) (kr_recv hK hP (20 + 4 * mi + t) (by omega) (E_wk (mi := mi) (t := t) hmi ht _ _ _ _) rfl) hK hP hD hS hA rfl hl.1 rfl (Nat.le_of_ble_eq_true rfl) dX0_doPlainAction_157 ⟨Nat.le_of_ble_eq_true rfl, Nat.le_of_ble_eq_true rfl⟩ (fun H locs hP hD hS => ?_)
    exact kr_vret hx hb hr hlocks hK hP hD hS (by unfold m_aPlain; rw [if_pos c_1]) dX0_doPlainAction_160
  by_cases c_2 : (r_wAction iv mi t) = 7
  · refine lv_tableIn (tgt := 64) (off := 60) hx hb dX0_doPlainAction_4 (by rw [c_2]; decide) (by rw [c_2]; decide) (by rw [c_2]; decide) (by decide) ?_
    refine lv_aload_n hx hb dX0_doPlainAction_64 rfl (lv_at hl 1 rfl) ?_
    refine kr_get (C := "MonitorWays$Worker") (T := TX5) (N := 8) hx hb hts hin_X5 hown hK hP (20 + 4 * mi + t) (by omega) (E_wk (mi := mi) (t := t) hmi ht _ _ _ _) rfl 4 (by decide) lk_f150 (fun _ h9 => h9) rfl dX0_doPlainAction_65 ?_
    refine lv_if_ne (tgt := 84) hx hb dX0_doPlainAction_68 (by decide) (fun c_3 => ?_) (fun c_3 => ?_)
    · refine lv_aload_n hx hb dX0_doPlainAction_84 rfl (lv_at hl 1 rfl) ?_
      refine lv_iconst (v := 0) hx hb dX0_doPlainAction_85 (by decide) ?_
      refine kr_put (C := "MonitorWays$Worker") (T := TX5) (N := 8) hx hb hts hin_X5 tyX5 ok_tyX5 ok_nX5 hown hK hP hD hS (20 + 4 * mi + t) (by omega) (fun _ => E_wk (mi := mi) (t := t) hmi ht _ _ _ _) rfl 4 (by decide) lk_f150 (fun _ h9 => h9) rfl rfl (by decide) (by decide) (fun _ => Nat.le_of_ble_eq_true rfl) (fun _ => rfl) dX0_doPlainAction_86 (fun H locs hP hD hS => ?_)
      refine lv_goto (tgt := 156) hx hb dX0_doPlainAction_89 (by decide) ?_
      refine lv_aload_n hx hb dX0_doPlainAction_156 rfl (lv_at hl 1 rfl) ?_
      refine kr_callVv (As := []) (rest := []) ⟨hx, hb, hml, hown, hts⟩ (c_wRunOn l D gc ad ln (up2 iv (20 + 4 * mi + t) 4 0) lv mi t hmi ht) (cwV 0 hts (goodV (fun _ h => tcons h) tw_337 tw_338 tw_339 tw_4 tw_340) rfl rfl rfl (by decide +kernel) ⟨Nat.le_of_ble_eq_true rfl, Nat.le_of_ble_eq_true rfl⟩) (kr_recv hK hP (20 + 4 * mi + t) (by omega) (E_wk (mi := mi) (t := t) hmi ht _ _ _ _) rfl) hK hP hD hS hA rfl hl.1 rfl (Nat.le_of_ble_eq_true rfl) dX0_doPlainAction_157 ⟨Nat.le_of_ble_eq_true rfl, Nat.le_of_ble_eq_true rfl⟩ (fun H locs hP hD hS => ?_)
      exact kr_vret hx hb hr hlocks hK hP hD hS (by unfold m_aPlain; rw [if_neg c_1, if_pos c_2, if_neg c_3]) dX0_doPlainAction_160
    · refine lv_aload_n hx hb dX0_doPlainAction_71 rfl (lv_at hl 1 rfl) ?_
      refine kr_get (C := "MonitorWays$Worker") (T := TX5) (N := 8) hx hb hts hin_X5 hown hK hP (20 + 4 * mi + t) (by omega) (E_wk (mi := mi) (t := t) hmi ht _ _ _ _) rfl 3 (by decide) lk_f63 (fun _ h9 => h9) rfl dX0_doPlainAction_72 ?_
      refine lv_if_ne (tgt := 84) hx hb dX0_doPlainAction_75 (by decide) (fun c_4 => ?_) (fun c_4 => ?_)
      · refine lv_aload_n hx hb dX0_doPlainAction_84 rfl (lv_at hl 1 rfl) ?_
        refine lv_iconst (v := 0) hx hb dX0_doPlainAction_85 (by decide) ?_
        refine kr_put (C := "MonitorWays$Worker") (T := TX5) (N := 8) hx hb hts hin_X5 tyX5 ok_tyX5 ok_nX5 hown hK hP hD hS (20 + 4 * mi + t) (by omega) (fun _ => E_wk (mi := mi) (t := t) hmi ht _ _ _ _) rfl 4 (by decide) lk_f150 (fun _ h9 => h9) rfl rfl (by decide) (by decide) (fun _ => Nat.le_of_ble_eq_true rfl) (fun _ => rfl) dX0_doPlainAction_86 (fun H locs hP hD hS => ?_)
        refine lv_goto (tgt := 156) hx hb dX0_doPlainAction_89 (by decide) ?_
        refine lv_aload_n hx hb dX0_doPlainAction_156 rfl (lv_at hl 1 rfl) ?_
        refine kr_callVv (As := []) (rest := []) ⟨hx, hb, hml, hown, hts⟩ (c_wRunOn l D gc ad ln (up2 iv (20 + 4 * mi + t) 4 0) lv mi t hmi ht) (cwV 0 hts (goodV (fun _ h => tcons h) tw_337 tw_338 tw_339 tw_4 tw_340) rfl rfl rfl (by decide +kernel) ⟨Nat.le_of_ble_eq_true rfl, Nat.le_of_ble_eq_true rfl⟩) (kr_recv hK hP (20 + 4 * mi + t) (by omega) (E_wk (mi := mi) (t := t) hmi ht _ _ _ _) rfl) hK hP hD hS hA rfl hl.1 rfl (Nat.le_of_ble_eq_true rfl) dX0_doPlainAction_157 ⟨Nat.le_of_ble_eq_true rfl, Nat.le_of_ble_eq_true rfl⟩ (fun H locs hP hD hS => ?_)
        exact kr_vret hx hb hr hlocks hK hP hD hS (by unfold m_aPlain; rw [if_neg c_1, if_pos c_2, if_pos c_3, if_neg c_4]) dX0_doPlainAction_160
      · refine lv_aload_n hx hb dX0_doPlainAction_78 rfl (lv_at hl 1 rfl) ?_
        refine lv_iconst (v := 3) hx hb dX0_doPlainAction_79 (by decide) ?_
        refine kr_put (C := "MonitorWays$Worker") (T := TX5) (N := 8) hx hb hts hin_X5 tyX5 ok_tyX5 ok_nX5 hown hK hP hD hS (20 + 4 * mi + t) (by omega) (fun _ => E_wk (mi := mi) (t := t) hmi ht _ _ _ _) rfl 0 (by decide) lk_f36 (fun _ h9 => h9) rfl rfl rfl rfl (fun _ => Nat.le_of_ble_eq_true rfl) (fun _ => rfl) dX0_doPlainAction_80 (fun H locs hP hD hS => ?_)
        exact kr_vret hx hb hr hlocks hK hP hD hS (by unfold m_aPlain; rw [if_neg c_1, if_pos c_2, if_pos c_3, if_pos c_4]) dX0_doPlainAction_83
  by_cases c_5 : (r_wAction iv mi t) = 8
  · refine lv_tableIn (tgt := 92) (off := 88) hx hb dX0_doPlainAction_4 (by rw [c_5]; decide) (by rw [c_5]; decide) (by rw [c_5]; decide) (by decide) ?_
    refine lv_aload_n hx hb dX0_doPlainAction_92 rfl (lv_at hl 0 rfl) ?_
    refine lv_aload_n hx hb dX0_doPlainAction_93 rfl (lv_at hl 0 rfl) ?_
    refine kr_get (C := "MonitorWays$Machine") (T := TX0) (N := 3) hx hb hts hin_X0 hown hK hP (14 + mi) (by omega) (E_mach hmi _ _ _ _) rfl 0 (by decide) lk_f11 (fun _ h9 => h9) rfl dX0_doPlainAction_94 ?_
    refine lv_aload_n hx hb dX0_doPlainAction_97 rfl (lv_at hl 1 rfl) ?_
    refine kr_callVi (As := []) (rest := [.ref (ad (16 + mi)), .ref (ad (14 + mi))]) ⟨hx, hb, hml, hown, hts⟩ (c_wOperand l D gc ad ln iv lv mi t hmi ht hpl) (cwV 0 hts (goodV (fun _ h => tcons h) tw_268 tw_269 tw_270 tw_4 tw_271) rfl rfl rfl (by decide +kernel) ⟨Nat.le_of_ble_eq_true rfl, Nat.le_of_ble_eq_true rfl⟩) (kr_recv hK hP (20 + 4 * mi + t) (by omega) (E_wk (mi := mi) (t := t) hmi ht _ _ _ _) rfl) hK hP hD hS hA rfl hl.1 rfl (Nat.le_of_ble_eq_true rfl) dX0_doPlainAction_98 ⟨Nat.le_of_ble_eq_true rfl, Nat.le_of_ble_eq_true rfl⟩ (fun H locs hP hD hS => ?_)
    refine kr_topi (y := nI u) (hou (Or.inr c_5)) ?_
    refine kr_aald (a := ad (20 + 4 * mi + u)) hx hb hK hP (16 + mi) 4 (by omega) (E_warr hmi _ _ _ _) rfl (vp_in_nI (n := u) (by omega) (by decide)) (by rw [nI_clamp (show u < 2 ^ 31 by omega)]) dX0_doPlainAction_101 ?_
    refine kr_callVv (As := [.ref (ad (20 + 4 * mi + u))]) (rest := []) ⟨hx, hb, hml, hown, hts⟩ (c_aUnpark l D gc ad ln iv lv mi u hmi (by omega)) (cwV 1 hts (goodV (fun _ h => tcons h) tw_349 tw_351 ts_11 tw_3 tw_352) rfl rfl rfl (by decide +kernel) ⟨Nat.le_of_ble_eq_true rfl, Nat.le_of_ble_eq_true rfl⟩) (kr_recv hK hP (14 + mi) (by omega) (E_mach hmi _ _ _ _) rfl) hK hP hD hS hA rfl hl.1 rfl (Nat.le_of_ble_eq_true rfl) dX0_doPlainAction_102 ⟨Nat.le_of_ble_eq_true rfl, Nat.le_of_ble_eq_true rfl⟩ (fun H locs hP hD hS => ?_)
    refine lv_goto (tgt := 156) hx hb dX0_doPlainAction_105 (by decide) ?_
    refine lv_aload_n hx hb dX0_doPlainAction_156 rfl (lv_at hl 1 rfl) ?_
    refine kr_callVv (As := []) (rest := []) ⟨hx, hb, hml, hown, hts⟩ (c_wRunOn l D gc ad ln (m_aUnpark iv mi u) lv mi t hmi ht) (cwV 0 hts (goodV (fun _ h => tcons h) tw_337 tw_338 tw_339 tw_4 tw_340) rfl rfl rfl (by decide +kernel) ⟨Nat.le_of_ble_eq_true rfl, Nat.le_of_ble_eq_true rfl⟩) (kr_recv hK hP (20 + 4 * mi + t) (by omega) (E_wk (mi := mi) (t := t) hmi ht _ _ _ _) rfl) hK hP hD hS hA rfl hl.1 rfl (Nat.le_of_ble_eq_true rfl) dX0_doPlainAction_157 ⟨Nat.le_of_ble_eq_true rfl, Nat.le_of_ble_eq_true rfl⟩ (fun H locs hP hD hS => ?_)
    exact kr_vret hx hb hr hlocks hK hP hD hS (by unfold m_aPlain; rw [if_neg c_1, if_neg c_2, if_pos c_5]) dX0_doPlainAction_160
  by_cases c_6 : (r_wAction iv mi t) = 9
  · refine lv_tableIn (tgt := 108) (off := 104) hx hb dX0_doPlainAction_4 (by rw [c_6]; decide) (by rw [c_6]; decide) (by rw [c_6]; decide) (by decide) ?_
    refine lv_aload_n hx hb dX0_doPlainAction_108 rfl (lv_at hl 1 rfl) ?_
    refine kr_callVi (As := []) (rest := []) ⟨hx, hb, hml, hown, hts⟩ (c_wTakeInt l D gc ad ln iv lv mi t hmi ht hz) (cwV 0 hts (goodV (fun _ h => tcons h) tw_324 tw_325 tw_326 tw_4 tw_327) rfl rfl rfl (by decide +kernel) ⟨Nat.le_of_ble_eq_true rfl, Nat.le_of_ble_eq_true rfl⟩) (kr_recv hK hP (20 + 4 * mi + t) (by omega) (E_wk (mi := mi) (t := t) hmi ht _ _ _ _) rfl) hK hP hD hS hA rfl hl.1 rfl (Nat.le_of_ble_eq_true rfl) dX0_doPlainAction_109 ⟨Nat.le_of_ble_eq_true rfl, Nat.le_of_ble_eq_true rfl⟩ (fun H locs hP hD hS => ?_)
    refine lv_if_eq (tgt := 156) hx hb dX0_doPlainAction_112 (by decide) (fun c_7 => ?_) (fun c_7 => ?_)
    · refine lv_aload_n hx hb dX0_doPlainAction_156 rfl (lv_at hl 1 rfl) ?_
      refine kr_callVv (As := []) (rest := []) ⟨hx, hb, hml, hown, hts⟩ (c_wRunOn l D gc ad ln (m_wTakeInt iv mi t) lv mi t hmi ht) (cwV 0 hts (goodV (fun _ h => tcons h) tw_337 tw_338 tw_339 tw_4 tw_340) rfl rfl rfl (by decide +kernel) ⟨Nat.le_of_ble_eq_true rfl, Nat.le_of_ble_eq_true rfl⟩) (kr_recv hK hP (20 + 4 * mi + t) (by omega) (E_wk (mi := mi) (t := t) hmi ht _ _ _ _) rfl) hK hP hD hS hA rfl hl.1 rfl (Nat.le_of_ble_eq_true rfl) dX0_doPlainAction_157 ⟨Nat.le_of_ble_eq_true rfl, Nat.le_of_ble_eq_true rfl⟩ (fun H locs hP hD hS => ?_)
      exact kr_vret hx hb hr hlocks hK hP hD hS (by unfold m_aPlain; rw [if_neg c_1, if_neg c_2, if_neg c_5, if_pos c_6, if_pos c_7]) dX0_doPlainAction_160
    · refine lv_aload_n hx hb dX0_doPlainAction_115 rfl (lv_at hl 1 rfl) ?_
      refine lv_iconst (v := 1) hx hb dX0_doPlainAction_116 (by decide) ?_
      refine kr_callVv (As := [.int 1]) (rest := []) ⟨hx, hb, hml, hown, hts⟩ (c_wPut l D gc ad ln (m_wTakeInt iv mi t) lv mi t hmi ht 1) (cwV 1 hts (goodV (fun _ h => tcons h) tw_304 tw_305 tw_306 tw_4 tw_307) rfl rfl rfl (by decide +kernel) ⟨Nat.le_of_ble_eq_true rfl, Nat.le_of_ble_eq_true rfl⟩) (kr_recv hK hP (20 + 4 * mi + t) (by omega) (E_wk (mi := mi) (t := t) hmi ht _ _ _ _) rfl) hK hP hD hS hA rfl hl.1 rfl (Nat.le_of_ble_eq_true rfl) dX0_doPlainAction_117 ⟨Nat.le_of_ble_eq_true rfl, Nat.le_of_ble_eq_true rfl⟩ (fun H locs hP hD hS => ?_)
      refine lv_goto (tgt := 156) hx hb dX0_doPlainAction_120 (by decide) ?_
      refine lv_aload_n hx hb dX0_doPlainAction_156 rfl (lv_at hl 1 rfl) ?_
      refine kr_callVv (As := []) (rest := []) ⟨hx, hb, hml, hown, hts⟩ (c_wRunOn l D gc ad ln (m_wPut (m_wTakeInt iv mi t) mi t 1) lv mi t hmi ht) (cwV 0 hts (goodV (fun _ h => tcons h) tw_337 tw_338 tw_339 tw_4 tw_340) rfl rfl rfl (by decide +kernel) ⟨Nat.le_of_ble_eq_true rfl, Nat.le_of_ble_eq_true rfl⟩) (kr_recv hK hP (20 + 4 * mi + t) (by omega) (E_wk (mi := mi) (t := t) hmi ht _ _ _ _) rfl) hK hP hD hS hA rfl hl.1 rfl (Nat.le_of_ble_eq_true rfl) dX0_doPlainAction_157 ⟨Nat.le_of_ble_eq_true rfl, Nat.le_of_ble_eq_true rfl⟩ (fun H locs hP hD hS => ?_)
      exact kr_vret hx hb hr hlocks hK hP hD hS (by unfold m_aPlain; rw [if_neg c_1, if_neg c_2, if_neg c_5, if_pos c_6, if_neg c_7]) dX0_doPlainAction_160
  by_cases c_8 : (r_wAction iv mi t) = 10
  · refine lv_tableIn (tgt := 108) (off := 104) hx hb dX0_doPlainAction_4 (by rw [c_8]; decide) (by rw [c_8]; decide) (by rw [c_8]; decide) (by decide) ?_
    refine lv_aload_n hx hb dX0_doPlainAction_108 rfl (lv_at hl 1 rfl) ?_
    refine kr_callVi (As := []) (rest := []) ⟨hx, hb, hml, hown, hts⟩ (c_wTakeInt l D gc ad ln iv lv mi t hmi ht hz) (cwV 0 hts (goodV (fun _ h => tcons h) tw_324 tw_325 tw_326 tw_4 tw_327) rfl rfl rfl (by decide +kernel) ⟨Nat.le_of_ble_eq_true rfl, Nat.le_of_ble_eq_true rfl⟩) (kr_recv hK hP (20 + 4 * mi + t) (by omega) (E_wk (mi := mi) (t := t) hmi ht _ _ _ _) rfl) hK hP hD hS hA rfl hl.1 rfl (Nat.le_of_ble_eq_true rfl) dX0_doPlainAction_109 ⟨Nat.le_of_ble_eq_true rfl, Nat.le_of_ble_eq_true rfl⟩ (fun H locs hP hD hS => ?_)
    refine lv_if_eq (tgt := 156) hx hb dX0_doPlainAction_112 (by decide) (fun c_9 => ?_) (fun c_9 => ?_)
    · refine lv_aload_n hx hb dX0_doPlainAction_156 rfl (lv_at hl 1 rfl) ?_
      refine kr_callVv (As := []) (rest := []) ⟨hx, hb, hml, hown, hts⟩ (c_wRunOn l D gc ad ln (m_wTakeInt iv mi t) lv mi t hmi ht) (cwV 0 hts (goodV (fun _ h => tcons h) tw_337 tw_338 tw_339 tw_4 tw_340) rfl rfl rfl (by decide +kernel) ⟨Nat.le_of_ble_eq_true rfl, Nat.le_of_ble_eq_true rfl⟩) (kr_recv hK hP (20 + 4 * mi + t) (by omega) (E_wk (mi := mi) (t := t) hmi ht _ _ _ _) rfl) hK hP hD hS hA rfl hl.1 rfl (Nat.le_of_ble_eq_true rfl) dX0_doPlainAction_157 ⟨Nat.le_of_ble_eq_true rfl, Nat.le_of_ble_eq_true rfl⟩ (fun H locs hP hD hS => ?_)
      exact kr_vret hx hb hr hlocks hK hP hD hS (by unfold m_aPlain; rw [if_neg c_1, if_neg c_2, if_neg c_5, if_neg c_6, if_pos c_8, if_pos c_9]) dX0_doPlainAction_160
    · refine lv_aload_n hx hb dX0_doPlainAction_115 rfl (lv_at hl 1 rfl) ?_
      refine lv_iconst (v := 1) hx hb dX0_doPlainAction_116 (by decide) ?_
      refine kr_callVv (As := [.int 1]) (rest := []) ⟨hx, hb, hml, hown, hts⟩ (c_wPut l D gc ad ln (m_wTakeInt iv mi t) lv mi t hmi ht 1) (cwV 1 hts (goodV (fun _ h => tcons h) tw_304 tw_305 tw_306 tw_4 tw_307) rfl rfl rfl (by decide +kernel) ⟨Nat.le_of_ble_eq_true rfl, Nat.le_of_ble_eq_true rfl⟩) (kr_recv hK hP (20 + 4 * mi + t) (by omega) (E_wk (mi := mi) (t := t) hmi ht _ _ _ _) rfl) hK hP hD hS hA rfl hl.1 rfl (Nat.le_of_ble_eq_true rfl) dX0_doPlainAction_117 ⟨Nat.le_of_ble_eq_true rfl, Nat.le_of_ble_eq_true rfl⟩ (fun H locs hP hD hS => ?_)
      refine lv_goto (tgt := 156) hx hb dX0_doPlainAction_120 (by decide) ?_
      refine lv_aload_n hx hb dX0_doPlainAction_156 rfl (lv_at hl 1 rfl) ?_
      refine kr_callVv (As := []) (rest := []) ⟨hx, hb, hml, hown, hts⟩ (c_wRunOn l D gc ad ln (m_wPut (m_wTakeInt iv mi t) mi t 1) lv mi t hmi ht) (cwV 0 hts (goodV (fun _ h => tcons h) tw_337 tw_338 tw_339 tw_4 tw_340) rfl rfl rfl (by decide +kernel) ⟨Nat.le_of_ble_eq_true rfl, Nat.le_of_ble_eq_true rfl⟩) (kr_recv hK hP (20 + 4 * mi + t) (by omega) (E_wk (mi := mi) (t := t) hmi ht _ _ _ _) rfl) hK hP hD hS hA rfl hl.1 rfl (Nat.le_of_ble_eq_true rfl) dX0_doPlainAction_157 ⟨Nat.le_of_ble_eq_true rfl, Nat.le_of_ble_eq_true rfl⟩ (fun H locs hP hD hS => ?_)
      exact kr_vret hx hb hr hlocks hK hP hD hS (by unfold m_aPlain; rw [if_neg c_1, if_neg c_2, if_neg c_5, if_neg c_6, if_pos c_8, if_neg c_9]) dX0_doPlainAction_160
  by_cases c_10 : (r_wAction iv mi t) = 11
  · refine lv_tableIn (tgt := 123) (off := 119) hx hb dX0_doPlainAction_4 (by rw [c_10]; decide) (by rw [c_10]; decide) (by rw [c_10]; decide) (by decide) ?_
    refine lv_aload_n hx hb dX0_doPlainAction_123 rfl (lv_at hl 1 rfl) ?_
    refine lv_bipush (v := 8) hx hb dX0_doPlainAction_124 (by decide) ?_
    refine lv_aload_n hx hb dX0_doPlainAction_126 rfl (lv_at hl 1 rfl) ?_
    refine kr_callVi (As := []) (rest := [.int 8, .ref (ad (20 + 4 * mi + t))]) ⟨hx, hb, hml, hown, hts⟩ (c_wOperand l D gc ad ln iv lv mi t hmi ht hpl) (cwV 0 hts (goodV (fun _ h => tcons h) tw_268 tw_269 tw_270 tw_4 tw_271) rfl rfl rfl (by decide +kernel) ⟨Nat.le_of_ble_eq_true rfl, Nat.le_of_ble_eq_true rfl⟩) (kr_recv hK hP (20 + 4 * mi + t) (by omega) (E_wk (mi := mi) (t := t) hmi ht _ _ _ _) rfl) hK hP hD hS hA rfl hl.1 rfl (Nat.le_of_ble_eq_true rfl) dX0_doPlainAction_127 ⟨Nat.le_of_ble_eq_true rfl, Nat.le_of_ble_eq_true rfl⟩ (fun H locs hP hD hS => ?_)
    refine lv_iadd hx hb dX0_doPlainAction_130 ?_
    refine kr_callVv (As := [.int (8 + (r_wOperand iv mi t))]) (rest := []) ⟨hx, hb, hml, hown, hts⟩ (c_wPut l D gc ad ln iv lv mi t hmi ht (8 + (r_wOperand iv mi t))) (cwV 1 hts (goodV (fun _ h => tcons h) tw_304 tw_305 tw_306 tw_4 tw_307) rfl rfl rfl (by decide +kernel) ⟨Nat.le_of_ble_eq_true rfl, Nat.le_of_ble_eq_true rfl⟩) (kr_recv hK hP (20 + 4 * mi + t) (by omega) (E_wk (mi := mi) (t := t) hmi ht _ _ _ _) rfl) hK hP hD hS hA rfl hl.1 rfl (Nat.le_of_ble_eq_true rfl) dX0_doPlainAction_131 ⟨Nat.le_of_ble_eq_true rfl, Nat.le_of_ble_eq_true rfl⟩ (fun H locs hP hD hS => ?_)
    refine lv_goto (tgt := 156) hx hb dX0_doPlainAction_134 (by decide) ?_
    refine lv_aload_n hx hb dX0_doPlainAction_156 rfl (lv_at hl 1 rfl) ?_
    refine kr_callVv (As := []) (rest := []) ⟨hx, hb, hml, hown, hts⟩ (c_wRunOn l D gc ad ln (m_wPut iv mi t (8 + (r_wOperand iv mi t))) lv mi t hmi ht) (cwV 0 hts (goodV (fun _ h => tcons h) tw_337 tw_338 tw_339 tw_4 tw_340) rfl rfl rfl (by decide +kernel) ⟨Nat.le_of_ble_eq_true rfl, Nat.le_of_ble_eq_true rfl⟩) (kr_recv hK hP (20 + 4 * mi + t) (by omega) (E_wk (mi := mi) (t := t) hmi ht _ _ _ _) rfl) hK hP hD hS hA rfl hl.1 rfl (Nat.le_of_ble_eq_true rfl) dX0_doPlainAction_157 ⟨Nat.le_of_ble_eq_true rfl, Nat.le_of_ble_eq_true rfl⟩ (fun H locs hP hD hS => ?_)
    exact kr_vret hx hb hr hlocks hK hP hD hS (by unfold m_aPlain; rw [if_neg c_1, if_neg c_2, if_neg c_5, if_neg c_6, if_neg c_8, if_pos c_10]) dX0_doPlainAction_160
  by_cases c_11 : (r_wAction iv mi t) = 12
  · refine lv_tableIn (tgt := 137) (off := 133) hx hb dX0_doPlainAction_4 (by rw [c_11]; decide) (by rw [c_11]; decide) (by rw [c_11]; decide) (by decide) ?_
    refine lv_aload_n hx hb dX0_doPlainAction_137 rfl (lv_at hl 1 rfl) ?_
    refine lv_aload_n hx hb dX0_doPlainAction_138 rfl (lv_at hl 1 rfl) ?_
    refine kr_callVi (As := []) (rest := [.ref (ad (20 + 4 * mi + t))]) ⟨hx, hb, hml, hown, hts⟩ (c_wTakeInt l D gc ad ln iv lv mi t hmi ht hz) (cwV 0 hts (goodV (fun _ h => tcons h) tw_324 tw_325 tw_326 tw_4 tw_327) rfl rfl rfl (by decide +kernel) ⟨Nat.le_of_ble_eq_true rfl, Nat.le_of_ble_eq_true rfl⟩) (kr_recv hK hP (20 + 4 * mi + t) (by omega) (E_wk (mi := mi) (t := t) hmi ht _ _ _ _) rfl) hK hP hD hS hA rfl hl.1 rfl (Nat.le_of_ble_eq_true rfl) dX0_doPlainAction_139 ⟨Nat.le_of_ble_eq_true rfl, Nat.le_of_ble_eq_true rfl⟩ (fun H locs hP hD hS => ?_)
    refine kr_tern (M := 150) (cnd := (r_wTakeInt iv mi t) = 0) (a := 5) (b := 4) (rest := [.ref (ad (20 + 4 * mi + t))]) (fun ja jb => ?_) ?_
    · refine lv_if_eq (tgt := 149) hx hb dX0_doPlainAction_142 (by decide) (fun c_12 => ?_) (fun c_12 => ?_)
      · refine lv_iconst (v := 5) hx hb dX0_doPlainAction_149 (by decide) ?_
        exact ja c_12
      · refine lv_iconst (v := 4) hx hb dX0_doPlainAction_145 (by decide) ?_
        refine lv_goto (tgt := 150) hx hb dX0_doPlainAction_146 (by decide) ?_
        exact jb c_12
    refine kr_callVv (As := [.int (if (r_wTakeInt iv mi t) = 0 then (5 : Int32) else 4)]) (rest := []) ⟨hx, hb, hml, hown, hts⟩ (c_wPut l D gc ad ln (m_wTakeInt iv mi t) lv mi t hmi ht (if (r_wTakeInt iv mi t) = 0 then (5 : Int32) else 4)) (cwV 1 hts (goodV (fun _ h => tcons h) tw_304 tw_305 tw_306 tw_4 tw_307) rfl rfl rfl (by decide +kernel) ⟨Nat.le_of_ble_eq_true rfl, Nat.le_of_ble_eq_true rfl⟩) (kr_recv hK hP (20 + 4 * mi + t) (by omega) (E_wk (mi := mi) (t := t) hmi ht _ _ _ _) rfl) hK hP hD hS hA rfl hl.1 rfl (Nat.le_of_ble_eq_true rfl) dX0_doPlainAction_150 ⟨Nat.le_of_ble_eq_true rfl, Nat.le_of_ble_eq_true rfl⟩ (fun H locs hP hD hS => ?_)
    refine lv_goto (tgt := 156) hx hb dX0_doPlainAction_153 (by decide) ?_
    refine lv_aload_n hx hb dX0_doPlainAction_156 rfl (lv_at hl 1 rfl) ?_
    refine kr_callVv (As := []) (rest := []) ⟨hx, hb, hml, hown, hts⟩ (c_wRunOn l D gc ad ln (m_wPut (m_wTakeInt iv mi t) mi t (if (r_wTakeInt iv mi t) = 0 then (5 : Int32) else 4)) lv mi t hmi ht) (cwV 0 hts (goodV (fun _ h => tcons h) tw_337 tw_338 tw_339 tw_4 tw_340) rfl rfl rfl (by decide +kernel) ⟨Nat.le_of_ble_eq_true rfl, Nat.le_of_ble_eq_true rfl⟩) (kr_recv hK hP (20 + 4 * mi + t) (by omega) (E_wk (mi := mi) (t := t) hmi ht _ _ _ _) rfl) hK hP hD hS hA rfl hl.1 rfl (Nat.le_of_ble_eq_true rfl) dX0_doPlainAction_157 ⟨Nat.le_of_ble_eq_true rfl, Nat.le_of_ble_eq_true rfl⟩ (fun H locs hP hD hS => ?_)
    exact kr_vret hx hb hr hlocks hK hP hD hS (by unfold m_aPlain; rw [if_neg c_1, if_neg c_2, if_neg c_5, if_neg c_6, if_neg c_8, if_neg c_10, if_pos c_11]) dX0_doPlainAction_160
  refine lv_tableOut (tgt := 156) hx hb dX0_doPlainAction_4 (sw_6_12 c_1 c_2 c_5 c_6 c_8 c_10 c_11) (by decide) ?_
  refine lv_aload_n hx hb dX0_doPlainAction_156 rfl (lv_at hl 1 rfl) ?_
  refine kr_callVv (As := []) (rest := []) ⟨hx, hb, hml, hown, hts⟩ (c_wRunOn l D gc ad ln iv lv mi t hmi ht) (cwV 0 hts (goodV (fun _ h => tcons h) tw_337 tw_338 tw_339 tw_4 tw_340) rfl rfl rfl (by decide +kernel) ⟨Nat.le_of_ble_eq_true rfl, Nat.le_of_ble_eq_true rfl⟩) (kr_recv hK hP (20 + 4 * mi + t) (by omega) (E_wk (mi := mi) (t := t) hmi ht _ _ _ _) rfl) hK hP hD hS hA rfl hl.1 rfl (Nat.le_of_ble_eq_true rfl) dX0_doPlainAction_157 ⟨Nat.le_of_ble_eq_true rfl, Nat.le_of_ble_eq_true rfl⟩ (fun H locs hP hD hS => ?_)
  exact kr_vret hx hb hr hlocks hK hP hD hS (by unfold m_aPlain; rw [if_neg c_1, if_neg c_2, if_neg c_5, if_neg c_6, if_neg c_8, if_neg c_10, if_neg c_11]) dX0_doPlainAction_160
