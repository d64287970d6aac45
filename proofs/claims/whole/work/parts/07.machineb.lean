/-- what Monitor.unpack writes into the set, after k of them -/
def mUn (c : Nat) (s : Int32) (iv : Nat → Nat → Int32) : Nat → Nat → Nat → Int32
  | 0 => iv
  | k + 1 => up2 (mUn c s iv k) c k ((s >>> (((9 : Int32) + (2 * nI k)) &&& 31)) &&& 3)
theorem mUn_ne {c a : Nat} {s : Int32} {iv : Nat → Nat → Int32} (h : a ≠ c) : ∀ k, mUn c s iv k a = iv a
  | 0 => rfl
  | k + 1 => by rw [mUn, up2_c h, mUn_ne h k]
/-- the fields that Monitor.unpack writes, then the set -/
def mU0 (iv : Nat → Nat → Int32) (q : Nat) (s : Int32) : Nat → Nat → Int32 := (up2 (up2 (up2 iv q 0 ((s &&& 7) - 1)) q 1 ((s >>> ((3 : Int32) &&& 31)) &&& 7)) q 2 (if (4 : Int32) < ((s >>> ((6 : Int32) &&& 31)) &&& 7) then (4 : Int32) else ((s >>> ((6 : Int32) &&& 31)) &&& 7)))
def m_mUnpack (iv : Nat → Nat → Int32) (mi m : Nat) (x : Int64) (sz : Nat) : Nat → Nat → Int32 := mUn (32 + 2 * mi + m) (x.toInt32 &&& 131071) (mU0 iv (28 + 2 * mi + m) (x.toInt32 &&& 131071)) sz
set_option maxHeartbeats 4000000 in
set_option maxRecDepth 100000 in
theorem c_mUnpack (l : Launch) (D : va_G) (gc : Nat → ClassId) (ad ln : Nat → Nat) (iv : Nat → Nat → Int32) (lv : Nat → Nat → Int64) (mi m : Nat) (hmi : mi < 2) (hm : m < 2) (x : Int64) (sz : Nat) (hsz : (if (4 : Int32) < (((x.toInt32 &&& 131071) >>> ((6 : Int32) &&& 31)) &&& 7) then (4 : Int32) else (((x.toInt32 &&& 131071) >>> ((6 : Int32) &&& 31)) &&& 7)) = nI sz) (hs4 : sz ≤ 4) : kMv l yX1_unpack wX1_unpack ({ frames := 1, cells := 0, slots := 0, locals := 20 }) D vwCl (kT gc) 42 (kE gc) [.ref (ad (28 + 2 * mi + m)), .long x] (ad, ln, iv, lv) (ad, ln, m_mUnpack iv mi m x sz, lv) := by
  refine kv_start (cc := cX1_unpack) (maxL := 5) (by decide) rfl (Nat.le_of_ble_eq_true rfl) ?_
  intro p9 e9 s m9 below meth c9 A ls hx hb hr hts hown hlocks hml hA hK hP hD hS hl
  have hl : lv_has ls 5 [(0, .ref (ad (28 + 2 * mi + m))), (1, .long x)] := hl
  have hown : s.vm.findClass "MonitorWays$Monitor" = some m9.cls := hown
  have hin_X1 : ∀ w ∈ u_ws "MonitorWays$Monitor" TX1 4, w ∈ wX1_unpack := fun w h => tcons (inX1 w h)
  have lk_c28 := hts _ (tcons tw_497)
  have lk_f22 := hts _ (tcons tw_92)
  have lk_f25 := hts _ (tcons tw_95)
  have lk_f18 := hts _ (tcons tw_98)
  have lk_f9 := hts _ (tcons tw_100)
  refine lv_lload_n hx hb dX1_unpack_0 rfl (lv_at hl 1 rfl) ?_
  refine lv_l2i hx hb dX1_unpack_1 rfl ?_
  refine lv_ldc (v := 131071) hx hb hown lk_c28 dX1_unpack_2 ?_
  refine lv_iand hx hb dX1_unpack_4 ?_
  refine lv_istore_n (lv' := [(3, .int (x.toInt32 &&& 131071)), (0, .ref (ad (28 + 2 * mi + m))), (1, .long x)]) hx hb dX1_unpack_5 rfl hl (by decide) rfl (fun ls hl => ?_)
  refine lv_aload_n hx hb dX1_unpack_6 rfl (lv_at hl 1 rfl) ?_
  refine lv_iload_n hx hb dX1_unpack_7 rfl (lv_at hl 0 rfl) ?_
  refine lv_bipush (v := 7) hx hb dX1_unpack_8 (by decide) ?_
  refine lv_iand hx hb dX1_unpack_10 ?_
  refine lv_iconst (v := 1) hx hb dX1_unpack_11 (by decide) ?_
  refine lv_isub hx hb dX1_unpack_12 ?_
  refine kr_put (C := "MonitorWays$Monitor") (T := TX1) (N := 4) hx hb hts hin_X1 tyX1 ok_tyX1 ok_nX1 hown hK hP hD hS (28 + 2 * mi + m) (by omega) (fun _ => E_mon (mi := mi) (m := m) hmi hm _ _ _ _) rfl 0 (by decide) lk_f22 (fun _ h9 => h9) rfl rfl rfl rfl (fun _ => Nat.le_of_ble_eq_true rfl) (fun _ => rfl) dX1_unpack_13 (fun H locs hP hD hS => ?_)
  refine lv_aload_n hx hb dX1_unpack_16 rfl (lv_at hl 1 rfl) ?_
  refine lv_iload_n hx hb dX1_unpack_17 rfl (lv_at hl 0 rfl) ?_
  refine lv_iconst (v := 3) hx hb dX1_unpack_18 (by decide) ?_
  refine lv_ishr hx hb dX1_unpack_19 ?_
  refine lv_bipush (v := 7) hx hb dX1_unpack_20 (by decide) ?_
  refine lv_iand hx hb dX1_unpack_22 ?_
  refine kr_put (C := "MonitorWays$Monitor") (T := TX1) (N := 4) hx hb hts hin_X1 tyX1 ok_tyX1 ok_nX1 hown hK hP hD hS (28 + 2 * mi + m) (by omega) (fun _ => E_mon (mi := mi) (m := m) hmi hm _ _ _ _) rfl 1 (by decide) lk_f25 (fun _ h9 => h9) rfl rfl rfl rfl (fun _ => Nat.le_of_ble_eq_true rfl) (fun _ => rfl) dX1_unpack_23 (fun H locs hP hD hS => ?_)
  refine lv_aload_n hx hb dX1_unpack_26 rfl (lv_at hl 1 rfl) ?_
  refine lv_iload_n hx hb dX1_unpack_27 rfl (lv_at hl 0 rfl) ?_
  refine lv_bipush (v := 6) hx hb dX1_unpack_28 (by decide) ?_
  refine lv_ishr hx hb dX1_unpack_30 ?_
  refine lv_bipush (v := 7) hx hb dX1_unpack_31 (by decide) ?_
  refine lv_iand hx hb dX1_unpack_33 ?_
  refine lv_iconst (v := 4) hx hb dX1_unpack_34 (by decide) ?_
  refine va_mmin hx hb (hml.trans hl.1.symm) hown (hts _ (tcons tw_498)) (hts _ (tcons tw_442)) (hts _ (tcons tw_10)) (hts _ (tcons tw_443)) (Nat.le_of_ble_eq_true rfl) (Nat.le_of_ble_eq_true rfl) (Nat.le_of_ble_eq_true rfl) (Nat.le_of_ble_eq_true rfl) dX1_unpack_35 ?_
  refine kr_put (C := "MonitorWays$Monitor") (T := TX1) (N := 4) hx hb hts hin_X1 tyX1 ok_tyX1 ok_nX1 hown hK hP hD hS (28 + 2 * mi + m) (by omega) (fun _ => E_mon (mi := mi) (m := m) hmi hm _ _ _ _) rfl 2 (by decide) lk_f18 (fun _ h9 => h9) rfl rfl rfl rfl (fun _ => Nat.le_of_ble_eq_true rfl) (fun _ => rfl) dX1_unpack_38 (fun H locs hP hD hS => ?_)
  refine lv_iconst (v := 0) hx hb dX1_unpack_41 (by decide) ?_
  refine lv_istore (lv' := [(4, .int 0), (3, .int (x.toInt32 &&& 131071)), (0, .ref (ad (28 + 2 * mi + m))), (1, .long x)]) hx hb dX1_unpack_42 hl (by decide) rfl (fun ls hl => ?_)
  refine kr_loop (σ := Nat) (fun z9 => match z9 with | i => sz - i) (fun z9 H locs ls => match z9 with | i => (i ≤ sz) ∧ va_P D vwCl (mW 42 (kE gc) (ad, ln, (mUn (32 + 2 * mi + m) (x.toInt32 &&& 131071) (mU0 iv (28 + 2 * mi + m) (x.toInt32 &&& 131071)) i), lv)) H ∧ va_D A (mW 42 (kE gc) (ad, ln, (mUn (32 + 2 * mi + m) (x.toInt32 &&& 131071) (mU0 iv (28 + 2 * mi + m) (x.toInt32 &&& 131071)) i), lv)) ∧ va_S A s.heap H locs ∧ lv_has ls 5 [(0, .ref (ad (28 + 2 * mi + m))), (3, .int (x.toInt32 &&& 131071)), (4, .int (nI i))]) 44 (0) ⟨Nat.zero_le _, hP, hD, hS, lv_sub hl [2, 1, 0] rfl⟩ ?_
  intro z9 H locs ls hI ih
  obtain ⟨i, hx9⟩ : ∃ z, z = z9 := ⟨_, rfl⟩
  subst hx9
  obtain ⟨hi, hP, hD, hS, hl⟩ := hI
  refine lv_iload hx hb dX1_unpack_44 (lv_at hl 2 rfl) ?_
  refine lv_aload_n hx hb dX1_unpack_46 rfl (lv_at hl 0 rfl) ?_
  refine kr_get (C := "MonitorWays$Monitor") (T := TX1) (N := 4) hx hb hts hin_X1 hown hK hP (28 + 2 * mi + m) (by omega) (E_mon (mi := mi) (m := m) hmi hm _ _ _ _) rfl 2 (by decide) lk_f18 (fun _ h9 => h9) rfl dX1_unpack_47 ?_
  refine kr_topi (y := nI sz) ((congrFun (mUn_ne (by omega) i) 2).trans (up2_s.trans hsz)) ?_
  refine lv_icmp_ge (tgt := 77) hx hb dX1_unpack_50 (by decide) (fun c_1 => ?_) (fun c_1 => ?_)
  · have hie : sz = i := by have := (nI_leI (by omega) (by omega)).mp c_1; omega
    subst hie
    exact kr_vret hx hb hr hlocks hK hP hD hS rfl dX1_unpack_77
  · have hlt : i < sz := lt_of_nle (by omega) (by omega) c_1
    refine lv_aload_n hx hb dX1_unpack_53 rfl (lv_at hl 0 rfl) ?_
    refine kr_get (C := "MonitorWays$Monitor") (T := TX1) (N := 4) hx hb hts hin_X1 hown hK hP (28 + 2 * mi + m) (by omega) (E_mon (mi := mi) (m := m) hmi hm _ _ _ _) rfl 3 (by decide) lk_f9 (fun _ h9 => h9) rfl dX1_unpack_54 ?_
    refine lv_iload hx hb dX1_unpack_57 (lv_at hl 2 rfl) ?_
    refine lv_iload_n hx hb dX1_unpack_59 rfl (lv_at hl 1 rfl) ?_
    refine lv_bipush (v := 9) hx hb dX1_unpack_60 (by decide) ?_
    refine lv_iconst (v := 2) hx hb dX1_unpack_62 (by decide) ?_
    refine lv_iload hx hb dX1_unpack_63 (lv_at hl 2 rfl) ?_
    refine lv_imul hx hb dX1_unpack_65 ?_
    refine lv_iadd hx hb dX1_unpack_66 ?_
    refine lv_ishr hx hb dX1_unpack_67 ?_
    refine lv_iconst (v := 3) hx hb dX1_unpack_68 (by decide) ?_
    refine lv_iand hx hb dX1_unpack_69 ?_
    refine kr_iastN hx hb hK hP hD hS (32 + 2 * mi + m) 0 (by omega) (fun _ => E_mset (mi := mi) (m := m) hmi hm _ _ _ _) rfl (j := i) (by omega) (by decide) dX1_unpack_70 (fun H locs hP hD hS => ?_)
    refine lv_iinc (v := nI (i + 1)) (lv' := [(4, .int (nI (i + 1))), (0, .ref (ad (28 + 2 * mi + m))), (3, .int (x.toInt32 &&& 131071))]) hx hb dX1_unpack_71 hl (k := 2) rfl (nI_1 i) (by decide) rfl (fun ls hl => ?_)
    refine lv_goto (tgt := 44) hx hb dX1_unpack_74 (by decide) ?_
    exact ih (i + 1) H locs ls ⟨by omega, hP, hD, hS, lv_sub hl [1, 2, 0] rfl⟩ (by show sz - (i + 1) < sz - i; omega)
def m_aBegin (iv : Nat → Nat → Int32) (mi : Nat) : Nat → Nat → Int32 := (m_mBegin (m_mBegin (m_wBegin (m_wBegin (m_wBegin (m_wBegin iv mi 0) mi 1) mi 2) mi 3) mi 0) mi 1)
set_option maxHeartbeats 4000000 in
set_option maxRecDepth 100000 in
theorem c_aBegin (l : Launch) (D : va_G) (gc : Nat → ClassId) (ad ln : Nat → Nat) (iv : Nat → Nat → Int32) (lv : Nat → Nat → Int64) (mi : Nat) (hmi : mi < 2) : kMv l yX0_begin wX0_begin ({ frames := 2, cells := 0, slots := 0, locals := 40 }) D vwCl (kT gc) 42 (kE gc) [.ref (ad (14 + mi))] (ad, ln, iv, lv) (ad, ln, m_aBegin iv mi, lv) := by
  refine kv_start (cc := cX0_begin) (maxL := 2) (by decide) rfl (Nat.le_of_ble_eq_true rfl) ?_
  intro p9 e9 s m9 below meth c9 A ls hx hb hr hts hown hlocks hml hA hK hP hD hS hl
  have hl : lv_has ls 2 [(0, .ref (ad (14 + mi)))] := hl
  have hown : s.vm.findClass "MonitorWays$Machine" = some m9.cls := hown
  have hin_X0 : ∀ w ∈ u_ws "MonitorWays$Machine" TX0 3, w ∈ wX0_begin := fun w h => tcons (inX0 w h)
  have lk_f11 := hts _ (tcons tw_126)
  have lk_f19 := hts _ (tcons tw_128)
  refine lv_iconst (v := 0) hx hb dX0_begin_0 (by decide) ?_
  refine lv_istore_n (lv' := [(1, .int 0), (0, .ref (ad (14 + mi)))]) hx hb dX0_begin_1 rfl hl (by decide) rfl (fun ls hl => ?_)
  refine lv_iload_n hx hb dX0_begin_2 rfl (lv_at hl 0 rfl) ?_
  refine lv_iconst (v := 4) hx hb dX0_begin_3 (by decide) ?_
  refine lv_icmp_ge (tgt := 22) hx hb dX0_begin_4 (by decide) (fun c_1 => absurd c_1 (by decide)) (fun c_1 => ?_)
  refine lv_aload_n hx hb dX0_begin_7 rfl (lv_at hl 1 rfl) ?_
  refine kr_get (C := "MonitorWays$Machine") (T := TX0) (N := 3) hx hb hts hin_X0 hown hK hP (14 + mi) (by omega) (E_mach hmi _ _ _ _) rfl 0 (by decide) lk_f11 (fun _ h9 => h9) rfl dX0_begin_8 ?_
  refine lv_iload_n hx hb dX0_begin_11 rfl (lv_at hl 0 rfl) ?_
  refine kr_aald (a := ad (20 + 4 * mi + 0)) hx hb hK hP (16 + mi) 4 (by omega) (E_warr hmi _ _ _ _) rfl (vp_in_nI (n := 0) (by decide) (by decide)) rfl dX0_begin_12 ?_
  refine kr_callVv (As := []) (rest := []) ⟨hx, hb, hml, hown, hts⟩ (c_wBegin l D gc ad ln iv lv mi 0 hmi (by decide)) (cwV 0 hts (goodV (fun _ h => tcons h) tw_114 tw_115 tw_116 tw_4 tw_117) rfl rfl rfl (by decide +kernel) ⟨Nat.le_of_ble_eq_true rfl, Nat.le_of_ble_eq_true rfl⟩) (kr_recv hK hP (20 + 4 * mi + 0) (by omega) (E_wk (mi := mi) (t := 0) hmi (by decide) _ _ _ _) rfl) hK hP hD hS hA rfl hl.1 rfl (Nat.le_of_ble_eq_true rfl) dX0_begin_13 ⟨Nat.le_of_ble_eq_true rfl, Nat.le_of_ble_eq_true rfl⟩ (fun H locs hP hD hS => ?_)
  refine lv_iinc (v := 1) (lv' := [(1, .int 1), (0, .ref (ad (14 + mi)))]) hx hb dX0_begin_16 hl (k := 0) rfl (by decide) (by decide) rfl (fun ls hl => ?_)
  refine lv_goto (tgt := 2) hx hb dX0_begin_19 (by decide) ?_
  refine lv_iload_n hx hb dX0_begin_2 rfl (lv_at hl 0 rfl) ?_
  refine lv_iconst (v := 4) hx hb dX0_begin_3 (by decide) ?_
  refine lv_icmp_ge (tgt := 22) hx hb dX0_begin_4 (by decide) (fun c_2 => absurd c_2 (by decide)) (fun c_2 => ?_)
  refine lv_aload_n hx hb dX0_begin_7 rfl (lv_at hl 1 rfl) ?_
  refine kr_get (C := "MonitorWays$Machine") (T := TX0) (N := 3) hx hb hts hin_X0 hown hK hP (14 + mi) (by omega) (E_mach hmi _ _ _ _) rfl 0 (by decide) lk_f11 (fun _ h9 => h9) rfl dX0_begin_8 ?_
  refine lv_iload_n hx hb dX0_begin_11 rfl (lv_at hl 0 rfl) ?_
  refine kr_aald (a := ad (20 + 4 * mi + 1)) hx hb hK hP (16 + mi) 4 (by omega) (E_warr hmi _ _ _ _) rfl (vp_in_nI (n := 1) (by decide) (by decide)) rfl dX0_begin_12 ?_
  refine kr_callVv (As := []) (rest := []) ⟨hx, hb, hml, hown, hts⟩ (c_wBegin l D gc ad ln (m_wBegin iv mi 0) lv mi 1 hmi (by decide)) (cwV 0 hts (goodV (fun _ h => tcons h) tw_114 tw_115 tw_116 tw_4 tw_117) rfl rfl rfl (by decide +kernel) ⟨Nat.le_of_ble_eq_true rfl, Nat.le_of_ble_eq_true rfl⟩) (kr_recv hK hP (20 + 4 * mi + 1) (by omega) (E_wk (mi := mi) (t := 1) hmi (by decide) _ _ _ _) rfl) hK hP hD hS hA rfl hl.1 rfl (Nat.le_of_ble_eq_true rfl) dX0_begin_13 ⟨Nat.le_of_ble_eq_true rfl, Nat.le_of_ble_eq_true rfl⟩ (fun H locs hP hD hS => ?_)
  refine lv_iinc (v := 2) (lv' := [(1, .int 2), (0, .ref (ad (14 + mi)))]) hx hb dX0_begin_16 hl (k := 0) rfl (by decide) (by decide) rfl (fun ls hl => ?_)
  refine lv_goto (tgt := 2) hx hb dX0_begin_19 (by decide) ?_
  refine lv_iload_n hx hb dX0_begin_2 rfl (lv_at hl 0 rfl) ?_
  refine lv_iconst (v := 4) hx hb dX0_begin_3 (by decide) ?_
  refine lv_icmp_ge (tgt := 22) hx hb dX0_begin_4 (by decide) (fun c_3 => absurd c_3 (by decide)) (fun c_3 => ?_)
  refine lv_aload_n hx hb dX0_begin_7 rfl (lv_at hl 1 rfl) ?_
  refine kr_get (C := "MonitorWays$Machine") (T := TX0) (N := 3) hx hb hts hin_X0 hown hK hP (14 + mi) (by omega) (E_mach hmi _ _ _ _) rfl 0 (by decide) lk_f11 (fun _ h9 => h9) rfl dX0_begin_8 ?_
  refine lv_iload_n hx hb dX0_begin_11 rfl (lv_at hl 0 rfl) ?_
  refine kr_aald (a := ad (20 + 4 * mi + 2)) hx hb hK hP (16 + mi) 4 (by omega) (E_warr hmi _ _ _ _) rfl (vp_in_nI (n := 2) (by decide) (by decide)) rfl dX0_begin_12 ?_
  refine kr_callVv (As := []) (rest := []) ⟨hx, hb, hml, hown, hts⟩ (c_wBegin l D gc ad ln (m_wBegin (m_wBegin iv mi 0) mi 1) lv mi 2 hmi (by decide)) (cwV 0 hts (goodV (fun _ h => tcons h) tw_114 tw_115 tw_116 tw_4 tw_117) rfl rfl rfl (by decide +kernel) ⟨Nat.le_of_ble_eq_true rfl, Nat.le_of_ble_eq_true rfl⟩) (kr_recv hK hP (20 + 4 * mi + 2) (by omega) (E_wk (mi := mi) (t := 2) hmi (by decide) _ _ _ _) rfl) hK hP hD hS hA rfl hl.1 rfl (Nat.le_of_ble_eq_true rfl) dX0_begin_13 ⟨Nat.le_of_ble_eq_true rfl, Nat.le_of_ble_eq_true rfl⟩ (fun H locs hP hD hS => ?_)
  refine lv_iinc (v := 3) (lv' := [(1, .int 3), (0, .ref (ad (14 + mi)))]) hx hb dX0_begin_16 hl (k := 0) rfl (by decide) (by decide) rfl (fun ls hl => ?_)
  refine lv_goto (tgt := 2) hx hb dX0_begin_19 (by decide) ?_
  refine lv_iload_n hx hb dX0_begin_2 rfl (lv_at hl 0 rfl) ?_
  refine lv_iconst (v := 4) hx hb dX0_begin_3 (by decide) ?_
  refine lv_icmp_ge (tgt := 22) hx hb dX0_begin_4 (by decide) (fun c_4 => absurd c_4 (by decide)) (fun c_4 => ?_)
  refine lv_aload_n hx hb dX0_begin_7 rfl (lv_at hl 1 rfl) ?_
  refine kr_get (C := "MonitorWays$Machine") (T := TX0) (N := 3) hx hb hts hin_X0 hown hK hP (14 + mi) (by omega) (E_mach hmi _ _ _ _) rfl 0 (by decide) lk_f11 (fun _ h9 => h9) rfl dX0_begin_8 ?_
  refine lv_iload_n hx hb dX0_begin_11 rfl (lv_at hl 0 rfl) ?_
  refine kr_aald (a := ad (20 + 4 * mi + 3)) hx hb hK hP (16 + mi) 4 (by omega) (E_warr hmi _ _ _ _) rfl (vp_in_nI (n := 3) (by decide) (by decide)) rfl dX0_begin_12 ?_
  refine kr_callVv (As := []) (rest := []) ⟨hx, hb, hml, hown, hts⟩ (c_wBegin l D gc ad ln (m_wBegin (m_wBegin (m_wBegin iv mi 0) mi 1) mi 2) lv mi 3 hmi (by decide)) (cwV 0 hts (goodV (fun _ h => tcons h) tw_114 tw_115 tw_116 tw_4 tw_117) rfl rfl rfl (by decide +kernel) ⟨Nat.le_of_ble_eq_true rfl, Nat.le_of_ble_eq_true rfl⟩) (kr_recv hK hP (20 + 4 * mi + 3) (by omega) (E_wk (mi := mi) (t := 3) hmi (by decide) _ _ _ _) rfl) hK hP hD hS hA rfl hl.1 rfl (Nat.le_of_ble_eq_true rfl) dX0_begin_13 ⟨Nat.le_of_ble_eq_true rfl, Nat.le_of_ble_eq_true rfl⟩ (fun H locs hP hD hS => ?_)
  refine lv_iinc (v := 4) (lv' := [(1, .int 4), (0, .ref (ad (14 + mi)))]) hx hb dX0_begin_16 hl (k := 0) rfl (by decide) (by decide) rfl (fun ls hl => ?_)
  refine lv_goto (tgt := 2) hx hb dX0_begin_19 (by decide) ?_
  refine lv_iload_n hx hb dX0_begin_2 rfl (lv_at hl 0 rfl) ?_
  refine lv_iconst (v := 4) hx hb dX0_begin_3 (by decide) ?_
  refine lv_icmp_ge (tgt := 22) hx hb dX0_begin_4 (by decide) (fun c_5 => ?_) (fun c_5 => absurd (by decide) c_5)
  refine lv_iconst (v := 0) hx hb dX0_begin_22 (by decide) ?_
  refine lv_istore_n (lv' := [(1, .int 0), (0, .ref (ad (14 + mi)))]) hx hb dX0_begin_23 rfl hl (by decide) rfl (fun ls hl => ?_)
  refine lv_iload_n hx hb dX0_begin_24 rfl (lv_at hl 0 rfl) ?_
  refine lv_iconst (v := 2) hx hb dX0_begin_25 (by decide) ?_
  refine lv_icmp_ge (tgt := 44) hx hb dX0_begin_26 (by decide) (fun c_6 => absurd c_6 (by decide)) (fun c_6 => ?_)
  refine lv_aload_n hx hb dX0_begin_29 rfl (lv_at hl 1 rfl) ?_
  refine kr_get (C := "MonitorWays$Machine") (T := TX0) (N := 3) hx hb hts hin_X0 hown hK hP (14 + mi) (by omega) (E_mach hmi _ _ _ _) rfl 1 (by decide) lk_f19 (fun _ h9 => h9) rfl dX0_begin_30 ?_
  refine lv_iload_n hx hb dX0_begin_33 rfl (lv_at hl 0 rfl) ?_
  refine kr_aald (a := ad (28 + 2 * mi + 0)) hx hb hK hP (18 + mi) 5 (by omega) (E_marr hmi _ _ _ _) rfl (vp_in_nI (n := 0) (by decide) (by decide)) rfl dX0_begin_34 ?_
  refine kr_callVv (As := []) (rest := []) ⟨hx, hb, hml, hown, hts⟩ (c_mBegin l D gc ad ln (m_wBegin (m_wBegin (m_wBegin (m_wBegin iv mi 0) mi 1) mi 2) mi 3) lv mi 0 hmi (by decide)) (cwV 0 hts (goodV (fun _ h => tcons h) tw_118 tw_119 tw_120 tw_5 tw_121) rfl rfl rfl (by decide +kernel) ⟨Nat.le_of_ble_eq_true rfl, Nat.le_of_ble_eq_true rfl⟩) (kr_recv hK hP (28 + 2 * mi + 0) (by omega) (E_mon (mi := mi) (m := 0) hmi (by decide) _ _ _ _) rfl) hK hP hD hS hA rfl hl.1 rfl (Nat.le_of_ble_eq_true rfl) dX0_begin_35 ⟨Nat.le_of_ble_eq_true rfl, Nat.le_of_ble_eq_true rfl⟩ (fun H locs hP hD hS => ?_)
  refine lv_iinc (v := 1) (lv' := [(1, .int 1), (0, .ref (ad (14 + mi)))]) hx hb dX0_begin_38 hl (k := 0) rfl (by decide) (by decide) rfl (fun ls hl => ?_)
  refine lv_goto (tgt := 24) hx hb dX0_begin_41 (by decide) ?_
  refine lv_iload_n hx hb dX0_begin_24 rfl (lv_at hl 0 rfl) ?_
  refine lv_iconst (v := 2) hx hb dX0_begin_25 (by decide) ?_
  refine lv_icmp_ge (tgt := 44) hx hb dX0_begin_26 (by decide) (fun c_7 => absurd c_7 (by decide)) (fun c_7 => ?_)
  refine lv_aload_n hx hb dX0_begin_29 rfl (lv_at hl 1 rfl) ?_
  refine kr_get (C := "MonitorWays$Machine") (T := TX0) (N := 3) hx hb hts hin_X0 hown hK hP (14 + mi) (by omega) (E_mach hmi _ _ _ _) rfl 1 (by decide) lk_f19 (fun _ h9 => h9) rfl dX0_begin_30 ?_
  refine lv_iload_n hx hb dX0_begin_33 rfl (lv_at hl 0 rfl) ?_
  refine kr_aald (a := ad (28 + 2 * mi + 1)) hx hb hK hP (18 + mi) 5 (by omega) (E_marr hmi _ _ _ _) rfl (vp_in_nI (n := 1) (by decide) (by decide)) rfl dX0_begin_34 ?_
  refine kr_callVv (As := []) (rest := []) ⟨hx, hb, hml, hown, hts⟩ (c_mBegin l D gc ad ln (m_mBegin (m_wBegin (m_wBegin (m_wBegin (m_wBegin iv mi 0) mi 1) mi 2) mi 3) mi 0) lv mi 1 hmi (by decide)) (cwV 0 hts (goodV (fun _ h => tcons h) tw_118 tw_119 tw_120 tw_5 tw_121) rfl rfl rfl (by decide +kernel) ⟨Nat.le_of_ble_eq_true rfl, Nat.le_of_ble_eq_true rfl⟩) (kr_recv hK hP (28 + 2 * mi + 1) (by omega) (E_mon (mi := mi) (m := 1) hmi (by decide) _ _ _ _) rfl) hK hP hD hS hA rfl hl.1 rfl (Nat.le_of_ble_eq_true rfl) dX0_begin_35 ⟨Nat.le_of_ble_eq_true rfl, Nat.le_of_ble_eq_true rfl⟩ (fun H locs hP hD hS => ?_)
  refine lv_iinc (v := 2) (lv' := [(1, .int 2), (0, .ref (ad (14 + mi)))]) hx hb dX0_begin_38 hl (k := 0) rfl (by decide) (by decide) rfl (fun ls hl => ?_)
  refine lv_goto (tgt := 24) hx hb dX0_begin_41 (by decide) ?_
  refine lv_iload_n hx hb dX0_begin_24 rfl (lv_at hl 0 rfl) ?_
  refine lv_iconst (v := 2) hx hb dX0_begin_25 (by decide) ?_
  refine lv_icmp_ge (tgt := 44) hx hb dX0_begin_26 (by decide) (fun c_8 => ?_) (fun c_8 => absurd (by decide) c_8)
  exact kr_vret hx hb hr hlocks hK hP hD hS rfl dX0_begin_44
def r_aOutc (iv : Nat → Nat → Int32) (mi : Nat) : Int64 := ((((((((0 * 48611) + (r_wOutc iv mi 0)) * 48611) + (r_wOutc iv mi 1)) * 48611) + (r_wOutc iv mi 2)) * 48611) + (r_wOutc iv mi 3))
set_option maxHeartbeats 4000000 in
set_option maxRecDepth 100000 in
theorem c_aOutc (l : Launch) (D : va_G) (gc : Nat → ClassId) (ad ln : Nat → Nat) (iv : Nat → Nat → Int32) (lv : Nat → Nat → Int64) (mi : Nat) (hmi : mi < 2) : kMl l yX0_outcomeNumber wX0_outcomeNumber ({ frames := 1, cells := 0, slots := 0, locals := 20 }) D vwCl (kT gc) 42 (kE gc) [.ref (ad (14 + mi))] (ad, ln, iv, lv) (ad, ln, iv, lv) (r_aOutc iv mi) := by
  refine kl_start (cc := cX0_outcomeNumber) (maxL := 4) (ret := (some .long)) (by decide) rfl (Nat.le_of_ble_eq_true rfl) ?_
  intro p9 e9 s m9 below meth c9 A ls hx hb hr hts hown hlocks hml hA hK hP hD hS hl
  have hl : lv_has ls 4 [(0, .ref (ad (14 + mi)))] := hl
  have hown : s.vm.findClass "MonitorWays$Machine" = some m9.cls := hown
  have hin_X0 : ∀ w ∈ u_ws "MonitorWays$Machine" TX0 3, w ∈ wX0_outcomeNumber := fun w h => tcons (inX0 w h)
  have lk_c156 := hts _ (tcons tw_513)
  have lk_f11 := hts _ (tcons tw_126)
  refine lv_lconst (v := 0) hx hb dX0_outcomeNumber_0 (by decide) ?_
  refine lv_lstore_n (lv' := [(1, .long 0), (0, .ref (ad (14 + mi)))]) hx hb dX0_outcomeNumber_1 rfl hl (by decide) rfl (fun ls hl => ?_)
  refine lv_iconst (v := 0) hx hb dX0_outcomeNumber_2 (by decide) ?_
  refine lv_istore_n (lv' := [(3, .int 0), (1, .long 0), (0, .ref (ad (14 + mi)))]) hx hb dX0_outcomeNumber_3 rfl hl (by decide) rfl (fun ls hl => ?_)
  refine lv_iload_n hx hb dX0_outcomeNumber_4 rfl (lv_at hl 0 rfl) ?_
  refine lv_iconst (v := 4) hx hb dX0_outcomeNumber_5 (by decide) ?_
  refine lv_icmp_ge (tgt := 31) hx hb dX0_outcomeNumber_6 (by decide) (fun c_1 => absurd c_1 (by decide)) (fun c_1 => ?_)
  refine lv_lload_n hx hb dX0_outcomeNumber_9 rfl (lv_at hl 1 rfl) ?_
  refine lv_ldc2 (v := 48611) hx hb hown lk_c156 dX0_outcomeNumber_10 ?_
  refine lv_lmul hx hb dX0_outcomeNumber_13 ?_
  refine lv_aload_n hx hb dX0_outcomeNumber_14 rfl (lv_at hl 2 rfl) ?_
  refine kr_get (C := "MonitorWays$Machine") (T := TX0) (N := 3) hx hb hts hin_X0 hown hK hP (14 + mi) (by omega) (E_mach hmi _ _ _ _) rfl 0 (by decide) lk_f11 (fun _ h9 => h9) rfl dX0_outcomeNumber_15 ?_
  refine lv_iload_n hx hb dX0_outcomeNumber_18 rfl (lv_at hl 0 rfl) ?_
  refine kr_aald (a := ad (20 + 4 * mi + 0)) hx hb hK hP (16 + mi) 4 (by omega) (E_warr hmi _ _ _ _) rfl (vp_in_nI (n := 0) (by decide) (by decide)) rfl dX0_outcomeNumber_19 ?_
  refine kr_callVl (As := []) (rest := [.long (0 * 48611)]) ⟨hx, hb, hml, hown, hts⟩ (c_wOutc l D gc ad ln iv lv mi 0 hmi (by decide)) (cwV 0 hts (goodV (fun _ h => tcons h) tw_514 tw_515 tw_516 tw_4 tw_517) rfl rfl rfl (by decide +kernel) ⟨Nat.le_of_ble_eq_true rfl, Nat.le_of_ble_eq_true rfl⟩) (kr_recv hK hP (20 + 4 * mi + 0) (by omega) (E_wk (mi := mi) (t := 0) hmi (by decide) _ _ _ _) rfl) hK hP hD hS hA rfl hl.1 rfl (Nat.le_of_ble_eq_true rfl) dX0_outcomeNumber_20 ⟨Nat.le_of_ble_eq_true rfl, Nat.le_of_ble_eq_true rfl⟩ (fun H locs hP hD hS => ?_)
  refine lv_ladd hx hb dX0_outcomeNumber_23 ?_
  refine lv_lstore_n (lv' := [(1, .long ((0 * 48611) + (r_wOutc iv mi 0))), (3, .int 0), (0, .ref (ad (14 + mi)))]) hx hb dX0_outcomeNumber_24 rfl hl (by decide) rfl (fun ls hl => ?_)
  refine lv_iinc (v := 1) (lv' := [(3, .int 1), (1, .long ((0 * 48611) + (r_wOutc iv mi 0))), (0, .ref (ad (14 + mi)))]) hx hb dX0_outcomeNumber_25 hl (k := 1) rfl (by decide) (by decide) rfl (fun ls hl => ?_)
  refine lv_goto (tgt := 4) hx hb dX0_outcomeNumber_28 (by decide) ?_
  refine lv_iload_n hx hb dX0_outcomeNumber_4 rfl (lv_at hl 0 rfl) ?_
  refine lv_iconst (v := 4) hx hb dX0_outcomeNumber_5 (by decide) ?_
  refine lv_icmp_ge (tgt := 31) hx hb dX0_outcomeNumber_6 (by decide) (fun c_2 => absurd c_2 (by decide)) (fun c_2 => ?_)
  refine lv_lload_n hx hb dX0_outcomeNumber_9 rfl (lv_at hl 1 rfl) ?_
  refine lv_ldc2 (v := 48611) hx hb hown lk_c156 dX0_outcomeNumber_10 ?_
  refine lv_lmul hx hb dX0_outcomeNumber_13 ?_
  refine lv_aload_n hx hb dX0_outcomeNumber_14 rfl (lv_at hl 2 rfl) ?_
  refine kr_get (C := "MonitorWays$Machine") (T := TX0) (N := 3) hx hb hts hin_X0 hown hK hP (14 + mi) (by omega) (E_mach hmi _ _ _ _) rfl 0 (by decide) lk_f11 (fun _ h9 => h9) rfl dX0_outcomeNumber_15 ?_
  refine lv_iload_n hx hb dX0_outcomeNumber_18 rfl (lv_at hl 0 rfl) ?_
  refine kr_aald (a := ad (20 + 4 * mi + 1)) hx hb hK hP (16 + mi) 4 (by omega) (E_warr hmi _ _ _ _) rfl (vp_in_nI (n := 1) (by decide) (by decide)) rfl dX0_outcomeNumber_19 ?_
  refine kr_callVl (As := []) (rest := [.long (((0 * 48611) + (r_wOutc iv mi 0)) * 48611)]) ⟨hx, hb, hml, hown, hts⟩ (c_wOutc l D gc ad ln iv lv mi 1 hmi (by decide)) (cwV 0 hts (goodV (fun _ h => tcons h) tw_514 tw_515 tw_516 tw_4 tw_517) rfl rfl rfl (by decide +kernel) ⟨Nat.le_of_ble_eq_true rfl, Nat.le_of_ble_eq_true rfl⟩) (kr_recv hK hP (20 + 4 * mi + 1) (by omega) (E_wk (mi := mi) (t := 1) hmi (by decide) _ _ _ _) rfl) hK hP hD hS hA rfl hl.1 rfl (Nat.le_of_ble_eq_true rfl) dX0_outcomeNumber_20 ⟨Nat.le_of_ble_eq_true rfl, Nat.le_of_ble_eq_true rfl⟩ (fun H locs hP hD hS => ?_)
  refine lv_ladd hx hb dX0_outcomeNumber_23 ?_
  refine lv_lstore_n (lv' := [(1, .long ((((0 * 48611) + (r_wOutc iv mi 0)) * 48611) + (r_wOutc iv mi 1))), (3, .int 1), (0, .ref (ad (14 + mi)))]) hx hb dX0_outcomeNumber_24 rfl hl (by decide) rfl (fun ls hl => ?_)
  refine lv_iinc (v := 2) (lv' := [(3, .int 2), (1, .long ((((0 * 48611) + (r_wOutc iv mi 0)) * 48611) + (r_wOutc iv mi 1))), (0, .ref (ad (14 + mi)))]) hx hb dX0_outcomeNumber_25 hl (k := 1) rfl (by decide) (by decide) rfl (fun ls hl => ?_)
  refine lv_goto (tgt := 4) hx hb dX0_outcomeNumber_28 (by decide) ?_
  refine lv_iload_n hx hb dX0_outcomeNumber_4 rfl (lv_at hl 0 rfl) ?_
  refine lv_iconst (v := 4) hx hb dX0_outcomeNumber_5 (by decide) ?_
  refine lv_icmp_ge (tgt := 31) hx hb dX0_outcomeNumber_6 (by decide) (fun c_3 => absurd c_3 (by decide)) (fun c_3 => ?_)
  refine lv_lload_n hx hb dX0_outcomeNumber_9 rfl (lv_at hl 1 rfl) ?_
  refine lv_ldc2 (v := 48611) hx hb hown lk_c156 dX0_outcomeNumber_10 ?_
  refine lv_lmul hx hb dX0_outcomeNumber_13 ?_
  refine lv_aload_n hx hb dX0_outcomeNumber_14 rfl (lv_at hl 2 rfl) ?_
  refine kr_get (C := "MonitorWays$Machine") (T := TX0) (N := 3) hx hb hts hin_X0 hown hK hP (14 + mi) (by omega) (E_mach hmi _ _ _ _) rfl 0 (by decide) lk_f11 (fun _ h9 => h9) rfl dX0_outcomeNumber_15 ?_
  refine lv_iload_n hx hb dX0_outcomeNumber_18 rfl (lv_at hl 0 rfl) ?_
  refine kr_aald (a := ad (20 + 4 * mi + 2)) hx hb hK hP (16 + mi) 4 (by omega) (E_warr hmi _ _ _ _) rfl (vp_in_nI (n := 2) (by decide) (by decide)) rfl dX0_outcomeNumber_19 ?_
  refine kr_callVl (As := []) (rest := [.long (((((0 * 48611) + (r_wOutc iv mi 0)) * 48611) + (r_wOutc iv mi 1)) * 48611)]) ⟨hx, hb, hml, hown, hts⟩ (c_wOutc l D gc ad ln iv lv mi 2 hmi (by decide)) (cwV 0 hts (goodV (fun _ h => tcons h) tw_514 tw_515 tw_516 tw_4 tw_517) rfl rfl rfl (by decide +kernel) ⟨Nat.le_of_ble_eq_true rfl, Nat.le_of_ble_eq_true rfl⟩) (kr_recv hK hP (20 + 4 * mi + 2) (by omega) (E_wk (mi := mi) (t := 2) hmi (by decide) _ _ _ _) rfl) hK hP hD hS hA rfl hl.1 rfl (Nat.le_of_ble_eq_true rfl) dX0_outcomeNumber_20 ⟨Nat.le_of_ble_eq_true rfl, Nat.le_of_ble_eq_true rfl⟩ (fun H locs hP hD hS => ?_)
  refine lv_ladd hx hb dX0_outcomeNumber_23 ?_
  refine lv_lstore_n (lv' := [(1, .long ((((((0 * 48611) + (r_wOutc iv mi 0)) * 48611) + (r_wOutc iv mi 1)) * 48611) + (r_wOutc iv mi 2))), (3, .int 2), (0, .ref (ad (14 + mi)))]) hx hb dX0_outcomeNumber_24 rfl hl (by decide) rfl (fun ls hl => ?_)
  refine lv_iinc (v := 3) (lv' := [(3, .int 3), (1, .long ((((((0 * 48611) + (r_wOutc iv mi 0)) * 48611) + (r_wOutc iv mi 1)) * 48611) + (r_wOutc iv mi 2))), (0, .ref (ad (14 + mi)))]) hx hb dX0_outcomeNumber_25 hl (k := 1) rfl (by decide) (by decide) rfl (fun ls hl => ?_)
  refine lv_goto (tgt := 4) hx hb dX0_outcomeNumber_28 (by decide) ?_
  refine lv_iload_n hx hb dX0_outcomeNumber_4 rfl (lv_at hl 0 rfl) ?_
  refine lv_iconst (v := 4) hx hb dX0_outcomeNumber_5 (by decide) ?_
  refine lv_icmp_ge (tgt := 31) hx hb dX0_outcomeNumber_6 (by decide) (fun c_4 => absurd c_4 (by decide)) (fun c_4 => ?_)
  refine lv_lload_n hx hb dX0_outcomeNumber_9 rfl (lv_at hl 1 rfl) ?_
  refine lv_ldc2 (v := 48611) hx hb hown lk_c156 dX0_outcomeNumber_10 ?_
  refine lv_lmul hx hb dX0_outcomeNumber_13 ?_
  refine lv_aload_n hx hb dX0_outcomeNumber_14 rfl (lv_at hl 2 rfl) ?_
  refine kr_get (C := "MonitorWays$Machine") (T := TX0) (N := 3) hx hb hts hin_X0 hown hK hP (14 + mi) (by omega) (E_mach hmi _ _ _ _) rfl 0 (by decide) lk_f11 (fun _ h9 => h9) rfl dX0_outcomeNumber_15 ?_
  refine lv_iload_n hx hb dX0_outcomeNumber_18 rfl (lv_at hl 0 rfl) ?_
  refine kr_aald (a := ad (20 + 4 * mi + 3)) hx hb hK hP (16 + mi) 4 (by omega) (E_warr hmi _ _ _ _) rfl (vp_in_nI (n := 3) (by decide) (by decide)) rfl dX0_outcomeNumber_19 ?_
  refine kr_callVl (As := []) (rest := [.long (((((((0 * 48611) + (r_wOutc iv mi 0)) * 48611) + (r_wOutc iv mi 1)) * 48611) + (r_wOutc iv mi 2)) * 48611)]) ⟨hx, hb, hml, hown, hts⟩ (c_wOutc l D gc ad ln iv lv mi 3 hmi (by decide)) (cwV 0 hts (goodV (fun _ h => tcons h) tw_514 tw_515 tw_516 tw_4 tw_517) rfl rfl rfl (by decide +kernel) ⟨Nat.le_of_ble_eq_true rfl, Nat.le_of_ble_eq_true rfl⟩) (kr_recv hK hP (20 + 4 * mi + 3) (by omega) (E_wk (mi := mi) (t := 3) hmi (by decide) _ _ _ _) rfl) hK hP hD hS hA rfl hl.1 rfl (Nat.le_of_ble_eq_true rfl) dX0_outcomeNumber_20 ⟨Nat.le_of_ble_eq_true rfl, Nat.le_of_ble_eq_true rfl⟩ (fun H locs hP hD hS => ?_)
  refine lv_ladd hx hb dX0_outcomeNumber_23 ?_
  refine lv_lstore_n (lv' := [(1, .long ((((((((0 * 48611) + (r_wOutc iv mi 0)) * 48611) + (r_wOutc iv mi 1)) * 48611) + (r_wOutc iv mi 2)) * 48611) + (r_wOutc iv mi 3))), (3, .int 3), (0, .ref (ad (14 + mi)))]) hx hb dX0_outcomeNumber_24 rfl hl (by decide) rfl (fun ls hl => ?_)
  refine lv_iinc (v := 4) (lv' := [(3, .int 4), (1, .long ((((((((0 * 48611) + (r_wOutc iv mi 0)) * 48611) + (r_wOutc iv mi 1)) * 48611) + (r_wOutc iv mi 2)) * 48611) + (r_wOutc iv mi 3))), (0, .ref (ad (14 + mi)))]) hx hb dX0_outcomeNumber_25 hl (k := 1) rfl (by decide) (by decide) rfl (fun ls hl => ?_)
  refine lv_goto (tgt := 4) hx hb dX0_outcomeNumber_28 (by decide) ?_
  refine lv_iload_n hx hb dX0_outcomeNumber_4 rfl (lv_at hl 0 rfl) ?_
  refine lv_iconst (v := 4) hx hb dX0_outcomeNumber_5 (by decide) ?_
  refine lv_icmp_ge (tgt := 31) hx hb dX0_outcomeNumber_6 (by decide) (fun c_5 => ?_) (fun c_5 => absurd (by decide) c_5)
  refine lv_lload_n hx hb dX0_outcomeNumber_31 rfl (lv_at hl 1 rfl) ?_
  exact kr_lret hx hb hr hlocks hK hP hD hS rfl rfl dX0_outcomeNumber_32
def r_aWord (iv : Nat → Nat → Int32) (mi t sz : Nat) : Int64 := if 2 ≤ nI t then (r_wPack iv mi t) else ((r_wPack iv mi t) ||| ((r_mPack iv mi t sz) <<< ((40 : Int32).toInt64 &&& 63)))
set_option maxHeartbeats 4000000 in
set_option maxRecDepth 100000 in
theorem c_aWord (l : Launch) (D : va_G) (gc : Nat → ClassId) (ad ln : Nat → Nat) (iv : Nat → Nat → Int32) (lv : Nat → Nat → Int64) (mi t : Nat) (hmi : mi < 2) (ht : t < 4) (sz : Nat) (hsz : t < 2 → iv (28 + 2 * mi + t) 2 = nI sz) (hs4 : sz ≤ 4) : kMl l yX0_wordOf wX0_wordOf ({ frames := 1, cells := 0, slots := 0, locals := 22 }) D vwCl (kT gc) 42 (kE gc) [.ref (ad (14 + mi)), .int (nI t)] (ad, ln, iv, lv) (ad, ln, iv, lv) (r_aWord iv mi t sz) := by
  refine kl_start (cc := cX0_wordOf) (maxL := 4) (ret := (some .long)) (by decide) rfl (Nat.le_of_ble_eq_true rfl) ?_
  intro p9 e9 s m9 below meth c9 A ls hx hb hr hts hown hlocks hml hA hK hP hD hS hl
  have hl : lv_has ls 4 [(0, .ref (ad (14 + mi))), (1, .int (nI t))] := hl
  have hown : s.vm.findClass "MonitorWays$Machine" = some m9.cls := hown
  have hin_X0 : ∀ w ∈ u_ws "MonitorWays$Machine" TX0 3, w ∈ wX0_wordOf := fun w h => tcons (inX0 w h)
  have lk_f11 := hts _ (tcons tw_126)
  have lk_f19 := hts _ (tcons tw_128)
  refine lv_aload_n hx hb dX0_wordOf_0 rfl (lv_at hl 0 rfl) ?_
  refine kr_get (C := "MonitorWays$Machine") (T := TX0) (N := 3) hx hb hts hin_X0 hown hK hP (14 + mi) (by omega) (E_mach hmi _ _ _ _) rfl 0 (by decide) lk_f11 (fun _ h9 => h9) rfl dX0_wordOf_1 ?_
  refine lv_iload_n hx hb dX0_wordOf_4 rfl (lv_at hl 1 rfl) ?_
  refine kr_aald (a := ad (20 + 4 * mi + t)) hx hb hK hP (16 + mi) 4 (by omega) (E_warr hmi _ _ _ _) rfl (vp_in_nI (n := t) (by omega) (by decide)) (by rw [nI_clamp (show t < 2 ^ 31 by omega)]) dX0_wordOf_5 ?_
  refine kr_callVl (As := []) (rest := []) ⟨hx, hb, hml, hown, hts⟩ (c_wPack l D gc ad ln iv lv mi t hmi (by omega)) (cwV 0 hts (goodV (fun _ h => tcons h) tw_464 tw_465 tw_466 tw_4 tw_467) rfl rfl rfl (by decide +kernel) ⟨Nat.le_of_ble_eq_true rfl, Nat.le_of_ble_eq_true rfl⟩) (kr_recv hK hP (20 + 4 * mi + t) (by omega) (E_wk (mi := mi) (t := t) hmi (by omega) _ _ _ _) rfl) hK hP hD hS hA rfl hl.1 rfl (Nat.le_of_ble_eq_true rfl) dX0_wordOf_6 ⟨Nat.le_of_ble_eq_true rfl, Nat.le_of_ble_eq_true rfl⟩ (fun H locs hP hD hS => ?_)
  refine lv_lstore_n (lv' := [(2, .long (r_wPack iv mi t)), (0, .ref (ad (14 + mi))), (1, .int (nI t))]) hx hb dX0_wordOf_9 rfl hl (by decide) rfl (fun ls hl => ?_)
  refine lv_iload_n hx hb dX0_wordOf_10 rfl (lv_at hl 2 rfl) ?_
  refine lv_iconst (v := 2) hx hb dX0_wordOf_11 (by decide) ?_
  refine lv_icmp_ge (tgt := 32) hx hb dX0_wordOf_12 (by decide) (fun c_1 => ?_) (fun c_1 => ?_)
  · refine lv_lload_n hx hb dX0_wordOf_32 rfl (lv_at hl 0 rfl) ?_
    exact kr_lret hx hb hr hlocks hK hP hD hS (by unfold r_aWord; rw [if_pos c_1]) rfl dX0_wordOf_33
  · have ht2 : t < 2 := lt_of_nle (a := 2) (by decide) (by omega) c_1
    refine lv_lload_n hx hb dX0_wordOf_15 rfl (lv_at hl 0 rfl) ?_
    refine lv_aload_n hx hb dX0_wordOf_16 rfl (lv_at hl 1 rfl) ?_
    refine kr_get (C := "MonitorWays$Machine") (T := TX0) (N := 3) hx hb hts hin_X0 hown hK hP (14 + mi) (by omega) (E_mach hmi _ _ _ _) rfl 1 (by decide) lk_f19 (fun _ h9 => h9) rfl dX0_wordOf_17 ?_
    refine lv_iload_n hx hb dX0_wordOf_20 rfl (lv_at hl 2 rfl) ?_
    refine kr_aald (a := ad (28 + 2 * mi + t)) hx hb hK hP (18 + mi) 5 (by omega) (E_marr hmi _ _ _ _) rfl (vp_in_nI (n := t) (by omega) (by decide)) (by rw [nI_clamp (show t < 2 ^ 31 by omega)]) dX0_wordOf_21 ?_
    refine kr_callVl (As := []) (rest := [.long (r_wPack iv mi t)]) ⟨hx, hb, hml, hown, hts⟩ (c_mPack l D gc ad ln iv lv mi t hmi (by omega) sz (hsz ht2) hs4) (cwV 0 hts (goodV (fun _ h => tcons h) tw_468 tw_469 tw_470 tw_5 tw_471) rfl rfl rfl (by decide +kernel) ⟨Nat.le_of_ble_eq_true rfl, Nat.le_of_ble_eq_true rfl⟩) (kr_recv hK hP (28 + 2 * mi + t) (by omega) (E_mon (mi := mi) (m := t) hmi (by omega) _ _ _ _) rfl) hK hP hD hS hA rfl hl.1 rfl (Nat.le_of_ble_eq_true rfl) dX0_wordOf_22 ⟨Nat.le_of_ble_eq_true rfl, Nat.le_of_ble_eq_true rfl⟩ (fun H locs hP hD hS => ?_)
    refine lv_bipush (v := 40) hx hb dX0_wordOf_25 (by decide) ?_
    refine lv_lshl hx hb dX0_wordOf_27 rfl ?_
    refine lv_lor hx hb dX0_wordOf_28 ?_
    refine lv_goto (tgt := 33) hx hb dX0_wordOf_29 (by decide) ?_
    exact kr_lret hx hb hr hlocks hK hP hD hS (by unfold r_aWord; rw [if_neg c_1]) rfl dX0_wordOf_33
def m_aUnword (iv : Nat → Nat → Int32) (mi t : Nat) (x : Int64) (sz : Nat) : Nat → Nat → Int32 := if 2 ≤ nI t then (m_wUnpack iv mi t x) else (m_mUnpack (m_wUnpack iv mi t x) mi t ((x.toUInt64 >>> ((40 : Int32).toInt64.toUInt64 &&& Int64.toUInt64 63)).toInt64) sz)
set_option maxHeartbeats 4000000 in
set_option maxRecDepth 100000 in
theorem c_aUnword (l : Launch) (D : va_G) (gc : Nat → ClassId) (ad ln : Nat → Nat) (iv : Nat → Nat → Int32) (lv : Nat → Nat → Int64) (mi t : Nat) (hmi : mi < 2) (ht : t < 4) (x : Int64) (sz : Nat) (hsz : (if (4 : Int32) < (((((x.toUInt64 >>> ((40 : Int32).toInt64.toUInt64 &&& Int64.toUInt64 63)).toInt64).toInt32 &&& 131071) >>> ((6 : Int32) &&& 31)) &&& 7) then (4 : Int32) else (((((x.toUInt64 >>> ((40 : Int32).toInt64.toUInt64 &&& Int64.toUInt64 63)).toInt64).toInt32 &&& 131071) >>> ((6 : Int32) &&& 31)) &&& 7)) = nI sz) (hs4 : sz ≤ 4) : kMv l yX0_unpackWord wX0_unpackWord ({ frames := 2, cells := 0, slots := 0, locals := 44 }) D vwCl (kT gc) 42 (kE gc) [.ref (ad (14 + mi)), .int (nI t), .long x] (ad, ln, iv, lv) (ad, ln, m_aUnword iv mi t x sz, lv) := by
  refine kv_start (cc := cX0_unpackWord) (maxL := 4) (by decide) rfl (Nat.le_of_ble_eq_true rfl) ?_
  intro p9 e9 s m9 below meth c9 A ls hx hb hr hts hown hlocks hml hA hK hP hD hS hl
  have hl : lv_has ls 4 [(0, .ref (ad (14 + mi))), (1, .int (nI t)), (2, .long x)] := hl
  have hown : s.vm.findClass "MonitorWays$Machine" = some m9.cls := hown
  have hin_X0 : ∀ w ∈ u_ws "MonitorWays$Machine" TX0 3, w ∈ wX0_unpackWord := fun w h => tcons (inX0 w h)
  have lk_f11 := hts _ (tcons tw_126)
  have lk_f19 := hts _ (tcons tw_128)
  refine lv_aload_n hx hb dX0_unpackWord_0 rfl (lv_at hl 0 rfl) ?_
  refine kr_get (C := "MonitorWays$Machine") (T := TX0) (N := 3) hx hb hts hin_X0 hown hK hP (14 + mi) (by omega) (E_mach hmi _ _ _ _) rfl 0 (by decide) lk_f11 (fun _ h9 => h9) rfl dX0_unpackWord_1 ?_
  refine lv_iload_n hx hb dX0_unpackWord_4 rfl (lv_at hl 1 rfl) ?_
  refine kr_aald (a := ad (20 + 4 * mi + t)) hx hb hK hP (16 + mi) 4 (by omega) (E_warr hmi _ _ _ _) rfl (vp_in_nI (n := t) (by omega) (by decide)) (by rw [nI_clamp (show t < 2 ^ 31 by omega)]) dX0_unpackWord_5 ?_
  refine lv_lload_n hx hb dX0_unpackWord_6 rfl (lv_at hl 2 rfl) ?_
  refine kr_callVv (As := [.long x]) (rest := []) ⟨hx, hb, hml, hown, hts⟩ (c_wUnpack l D gc ad ln iv lv mi t hmi (by omega) x) (cwV 1 hts (goodV (fun _ h => tcons h) tw_488 tw_489 tw_490 tw_4 tw_491) rfl rfl rfl (by decide +kernel) ⟨Nat.le_of_ble_eq_true rfl, Nat.le_of_ble_eq_true rfl⟩) (kr_recv hK hP (20 + 4 * mi + t) (by omega) (E_wk (mi := mi) (t := t) hmi (by omega) _ _ _ _) rfl) hK hP hD hS hA rfl hl.1 rfl (Nat.le_of_ble_eq_true rfl) dX0_unpackWord_7 ⟨Nat.le_of_ble_eq_true rfl, Nat.le_of_ble_eq_true rfl⟩ (fun H locs hP hD hS => ?_)
  refine lv_iload_n hx hb dX0_unpackWord_10 rfl (lv_at hl 1 rfl) ?_
  refine lv_iconst (v := 2) hx hb dX0_unpackWord_11 (by decide) ?_
  refine lv_icmp_ge (tgt := 28) hx hb dX0_unpackWord_12 (by decide) (fun c_1 => ?_) (fun c_1 => ?_)
  · exact kr_vret hx hb hr hlocks hK hP hD hS (by unfold m_aUnword; rw [if_pos c_1]) dX0_unpackWord_28
  · have ht2 : t < 2 := lt_of_nle (a := 2) (by decide) (by omega) c_1
    refine lv_aload_n hx hb dX0_unpackWord_15 rfl (lv_at hl 0 rfl) ?_
    refine kr_get (C := "MonitorWays$Machine") (T := TX0) (N := 3) hx hb hts hin_X0 hown hK hP (14 + mi) (by omega) (E_mach hmi _ _ _ _) rfl 1 (by decide) lk_f19 (fun _ h9 => h9) rfl dX0_unpackWord_16 ?_
    refine lv_iload_n hx hb dX0_unpackWord_19 rfl (lv_at hl 1 rfl) ?_
    refine kr_aald (a := ad (28 + 2 * mi + t)) hx hb hK hP (18 + mi) 5 (by omega) (E_marr hmi _ _ _ _) rfl (vp_in_nI (n := t) (by omega) (by decide)) (by rw [nI_clamp (show t < 2 ^ 31 by omega)]) dX0_unpackWord_20 ?_
    refine lv_lload_n hx hb dX0_unpackWord_21 rfl (lv_at hl 2 rfl) ?_
    refine lv_bipush (v := 40) hx hb dX0_unpackWord_22 (by decide) ?_
    refine lv_lushr hx hb dX0_unpackWord_24 rfl ?_
    refine kr_callVv (As := [.long ((x.toUInt64 >>> ((40 : Int32).toInt64.toUInt64 &&& Int64.toUInt64 63)).toInt64)]) (rest := []) ⟨hx, hb, hml, hown, hts⟩ (c_mUnpack l D gc ad ln (m_wUnpack iv mi t x) lv mi t hmi (by omega) ((x.toUInt64 >>> ((40 : Int32).toInt64.toUInt64 &&& Int64.toUInt64 63)).toInt64) sz hsz hs4) (cwV 1 hts (goodV (fun _ h => tcons h) tw_493 tw_494 tw_495 tw_5 tw_496) rfl rfl rfl (by decide +kernel) ⟨Nat.le_of_ble_eq_true rfl, Nat.le_of_ble_eq_true rfl⟩) (kr_recv hK hP (28 + 2 * mi + t) (by omega) (E_mon (mi := mi) (m := t) hmi (by omega) _ _ _ _) rfl) hK hP hD hS hA rfl hl.1 rfl (Nat.le_of_ble_eq_true rfl) dX0_unpackWord_25 ⟨Nat.le_of_ble_eq_true rfl, Nat.le_of_ble_eq_true rfl⟩ (fun H locs hP hD hS => ?_)
    exact kr_vret hx hb hr hlocks hK hP hD hS (by unfold m_aUnword; rw [if_neg c_1]) dX0_unpackWord_28
