/-- what keep rests on: size sz, 4 * kq slots, room for 3 * kq states, the search's monitors' sets -/
def okK (ln : Nat → Nat) (iv : Nat → Nat → Int32) (sz kq e : Nat) : Prop := iv 38 0 = nI sz ∧ sz ≤ 3000 ∧ ln 40 = kq * 4 ∧ kq * 4 = 2 ^ e ∧ e ≤ 12 ∧ 2 ≤ e ∧ ln 39 = kq * 4 * 3 ∧ vp_in (iv (28 + 2 * 1 + 0) 2) 5 ∧ vp_in (iv (28 + 2 * 1 + 1) 2) 5 ∧ okSl iv ln
def r_sKeep (iv : Nat → Nat → Int32) (lv : Nat → Nat → Int64) (ln : Nat → Nat) (sz : Nat) : Int32 := if iv 40 (slN iv (up2L (up2L (up2L (up2L lv 39 ((sz * 4) + 0) (r_aWord iv 1 0 (iv (28 + 2 * 1 + 0) 2).toNatClampNeg)) 39 ((sz * 4) + 1) (r_aWord iv 1 1 (iv (28 + 2 * 1 + 1) 2).toNatClampNeg)) 39 ((sz * 4) + 2) (r_aWord iv 1 2 0)) 39 ((sz * 4) + 3) (r_aWord iv 1 3 0)) (ln 40) sz) = 0 then if nI sz < 3000 then 1 else 0 else 1
theorem nb_sKeep (iv : Nat → Nat → Int32) (lv : Nat → Nat → Int64) (ln : Nat → Nat) (sz : Nat) : narrow .boolean (.int (r_sKeep iv lv ln sz)) = .int (r_sKeep iv lv ln sz) := by
  unfold r_sKeep; repeat' split
  all_goals rfl
def n_sKeep (iv : Nat → Nat → Int32) (lv : Nat → Nat → Int64) (ln : Nat → Nat) (sz : Nat) : Nat → Nat → Int64 := if iv 40 (slN iv (up2L (up2L (up2L (up2L lv 39 ((sz * 4) + 0) (r_aWord iv 1 0 (iv (28 + 2 * 1 + 0) 2).toNatClampNeg)) 39 ((sz * 4) + 1) (r_aWord iv 1 1 (iv (28 + 2 * 1 + 1) 2).toNatClampNeg)) 39 ((sz * 4) + 2) (r_aWord iv 1 2 0)) 39 ((sz * 4) + 3) (r_aWord iv 1 3 0)) (ln 40) sz) = 0 then if nI sz < 3000 then (up2L (up2L (up2L (up2L lv 39 ((sz * 4) + 0) (r_aWord iv 1 0 (iv (28 + 2 * 1 + 0) 2).toNatClampNeg)) 39 ((sz * 4) + 1) (r_aWord iv 1 1 (iv (28 + 2 * 1 + 1) 2).toNatClampNeg)) 39 ((sz * 4) + 2) (r_aWord iv 1 2 0)) 39 ((sz * 4) + 3) (r_aWord iv 1 3 0)) else (up2L (up2L (up2L (up2L lv 39 ((sz * 4) + 0) (r_aWord iv 1 0 (iv (28 + 2 * 1 + 0) 2).toNatClampNeg)) 39 ((sz * 4) + 1) (r_aWord iv 1 1 (iv (28 + 2 * 1 + 1) 2).toNatClampNeg)) 39 ((sz * 4) + 2) (r_aWord iv 1 2 0)) 39 ((sz * 4) + 3) (r_aWord iv 1 3 0)) else (up2L (up2L (up2L (up2L lv 39 ((sz * 4) + 0) (r_aWord iv 1 0 (iv (28 + 2 * 1 + 0) 2).toNatClampNeg)) 39 ((sz * 4) + 1) (r_aWord iv 1 1 (iv (28 + 2 * 1 + 1) 2).toNatClampNeg)) 39 ((sz * 4) + 2) (r_aWord iv 1 2 0)) 39 ((sz * 4) + 3) (r_aWord iv 1 3 0))
def m_sKeep (iv : Nat → Nat → Int32) (lv : Nat → Nat → Int64) (ln : Nat → Nat) (sz : Nat) : Nat → Nat → Int32 := if iv 40 (slN iv (up2L (up2L (up2L (up2L lv 39 ((sz * 4) + 0) (r_aWord iv 1 0 (iv (28 + 2 * 1 + 0) 2).toNatClampNeg)) 39 ((sz * 4) + 1) (r_aWord iv 1 1 (iv (28 + 2 * 1 + 1) 2).toNatClampNeg)) 39 ((sz * 4) + 2) (r_aWord iv 1 2 0)) 39 ((sz * 4) + 3) (r_aWord iv 1 3 0)) (ln 40) sz) = 0 then if nI sz < 3000 then (up2 (up2 iv 38 0 (nI (sz + 1))) 40 (slN iv (up2L (up2L (up2L (up2L lv 39 ((sz * 4) + 0) (r_aWord iv 1 0 (iv (28 + 2 * 1 + 0) 2).toNatClampNeg)) 39 ((sz * 4) + 1) (r_aWord iv 1 1 (iv (28 + 2 * 1 + 1) 2).toNatClampNeg)) 39 ((sz * 4) + 2) (r_aWord iv 1 2 0)) 39 ((sz * 4) + 3) (r_aWord iv 1 3 0)) (ln 40) sz) (nI (sz + 1))) else iv else iv
set_option maxHeartbeats 4000000 in
set_option maxRecDepth 100000 in
theorem c_sKeep (l : Launch) (D : va_G) (gc : Nat → ClassId) (ad ln : Nat → Nat) (iv : Nat → Nat → Int32) (lv : Nat → Nat → Int64) (sz kq e : Nat) (hok : okK ln iv sz kq e) (hlt : sz < kq * 3) : kMiX l yX4_keep wX4_keep ({ frames := 4, cells := 0, slots := 0, locals := 200 }) D vwCl (kT gc) 42 (kE gc) [.ref (ad 38), .ref (ad (14 + 1))] (ad, ln, iv, lv) (ln, m_sKeep iv lv ln sz, n_sKeep iv lv ln sz) (r_sKeep iv lv ln sz) := by
  refine kiX_start (cc := cX4_keep) (maxL := 3) (ret := (some .boolean)) (by decide) rfl (Nat.le_of_ble_eq_true rfl) ?_
  intro p9 e9 s m9 below meth c9 A ls hx hb hr hts hown hlocks hml hA hK hP hD hS hl
  obtain ⟨M0, hM0⟩ : ∃ z : KM, z = (ad, ln, iv, lv) := ⟨_, rfl⟩
  rw [← hM0]
  have hag : ∀ c, c < 39 → ad c = M0.1 c := fun c _ => by rw [hM0]
  have hl : lv_has ls 3 [(0, .ref (ad 38)), (1, .ref (ad (14 + 1)))] := hl
  have hown : s.vm.findClass "MonitorWays$States" = some m9.cls := hown
  have hin_X4 : ∀ w ∈ u_ws "MonitorWays$States" TX4 3, w ∈ wX4_keep := fun w h => tcons (inX4 w h)
  have lk_f23 := hts _ (tcons tw_153)
  have lk_f19 := hts _ (tcons tw_155)
  have lk_f15 := hts _ (tcons tw_154)
  obtain ⟨hsz, hs3, hkq, he0, he12, he2, hw, hz0, hz1, hsl⟩ := hok
  have hkb : kq * 4 ≤ 4096 := by rw [he0]; exact Nat.pow_le_pow_right (n := 2) (by decide) he12
  have hkp : 4 ≤ kq * 4 := by rw [he0]; exact Nat.pow_le_pow_right (n := 2) (by decide) he2
  have hnw : ln 39 < 2 ^ 31 := by omega
  have hns : ln 40 < 2 ^ 31 := by omega
  have hpos : 0 < ln 40 := by omega
  refine lv_aload_n hx hb dX4_keep_0 rfl (lv_at hl 0 rfl) ?_
  refine kr_get (C := "MonitorWays$States") (T := TX4) (N := 3) hx hb hts hin_X4 hown hK hP 38 (by decide) (E_sts _ _ _ _) rfl 0 (by decide) lk_f23 (fun _ h9 => h9) rfl dX4_keep_1 ?_
  refine kr_topi (y := nI sz) hsz ?_
  refine lv_aload_n hx hb dX4_keep_4 rfl (lv_at hl 0 rfl) ?_
  refine kr_get (C := "MonitorWays$States") (T := TX4) (N := 3) hx hb hts hin_X4 hown hK hP 38 (by decide) (E_sts _ _ _ _) rfl 2 (by decide) lk_f19 (fun _ h9 => h9) rfl dX4_keep_5 ?_
  refine kr_alen hx hb hK hP 40 0 (by decide) (E_slots _ _ _ _) rfl rfl dX4_keep_8 ?_
  refine kr_topi (y := nI (kq * 4)) (congrArg nI hkq) ?_
  refine kr_callSi (As := [.int (nI (kq * 4))]) (rest := [.int (nI sz)]) ⟨hx, hb, hml, hown, hts⟩ (c_sRoom l D gc ad ln iv lv (nI (kq * 4))) (cwS 1 hts (goodS (fun _ h => tcons h) tw_150 tw_151 tw_7 tw_152) rfl rfl rfl (by decide +kernel) ⟨Nat.le_of_ble_eq_true rfl, Nat.le_of_ble_eq_true rfl⟩) hK hP hD hS hA rfl hl.1 rfl (Nat.le_of_ble_eq_true rfl) dX4_keep_9 ⟨by (try dsimp only) <;> omega, by (try dsimp only) <;> omega⟩ (fun H locs hP hD hS => ?_)
  refine kr_topi (y := nI (kq * 3)) (sRoom4 _ (by omega)) ?_
  refine lv_icmp_lt (tgt := 19) hx hb dX4_keep_12 (by decide) (fun c_1 => ?_) (fun c_1 => absurd ((nI_ltI (by omega) (by omega)).mpr hlt) c_1)
  refine lv_iconst (v := 0) hx hb dX4_keep_19 (by decide) ?_
  refine lv_istore_n (lv' := [(2, .int 0), (0, .ref (ad 38)), (1, .ref (ad (14 + 1)))]) hx hb dX4_keep_20 rfl hl (by decide) rfl (fun ls hl => ?_)
  refine lv_iload_n hx hb dX4_keep_21 rfl (lv_at hl 0 rfl) ?_
  refine lv_iconst (v := 4) hx hb dX4_keep_22 (by decide) ?_
  refine lv_icmp_ge (tgt := 50) hx hb dX4_keep_23 (by decide) (fun c_2 => absurd c_2 (by decide)) (fun c_2 => ?_)
  refine lv_aload_n hx hb dX4_keep_26 rfl (lv_at hl 1 rfl) ?_
  refine kr_get (C := "MonitorWays$States") (T := TX4) (N := 3) hx hb hts hin_X4 hown hK hP 38 (by decide) (E_sts _ _ _ _) rfl 1 (by decide) lk_f15 (fun _ h9 => h9) rfl dX4_keep_27 ?_
  refine lv_aload_n hx hb dX4_keep_30 rfl (lv_at hl 1 rfl) ?_
  refine kr_get (C := "MonitorWays$States") (T := TX4) (N := 3) hx hb hts hin_X4 hown hK hP 38 (by decide) (E_sts _ _ _ _) rfl 0 (by decide) lk_f23 (fun _ h9 => h9) rfl dX4_keep_31 ?_
  refine kr_topi (y := nI sz) hsz ?_
  refine lv_iconst (v := 4) hx hb dX4_keep_34 (by decide) ?_
  refine lv_imul hx hb dX4_keep_35 ?_
  refine kr_topi (y := nI (sz * 4)) (pk_mul sz 4) ?_
  refine lv_iload_n hx hb dX4_keep_36 rfl (lv_at hl 0 rfl) ?_
  refine lv_iadd hx hb dX4_keep_37 ?_
  refine kr_topi (y := nI ((sz * 4) + 0)) (nI_add (sz * 4) 0) ?_
  refine lv_aload_n hx hb dX4_keep_38 rfl (lv_at hl 2 rfl) ?_
  refine lv_iload_n hx hb dX4_keep_39 rfl (lv_at hl 0 rfl) ?_
  refine kr_callVl (As := [.int 0]) (rest := [.int (nI ((sz * 4) + 0)), .ref (ad 39)]) ⟨hx, hb, hml, hown, hts⟩ (c_aWord l D gc ad ln iv lv 1 0 (by decide) (by decide) (iv (28 + 2 * 1 + 0) 2).toNatClampNeg (fun _ => vn_eq hz0) (Nat.le_of_lt_succ (vn_lt hz0))) (cwV 1 hts (goodV (fun _ h => tcons h) tw_460 tw_461 tw_462 tw_3 tw_463) rfl rfl rfl (by decide +kernel) ⟨Nat.le_of_ble_eq_true rfl, Nat.le_of_ble_eq_true rfl⟩) (kr_recv hK hP (14 + 1) (by omega) (E_mach (by decide) _ _ _ _) rfl) hK hP hD hS hA rfl hl.1 rfl (Nat.le_of_ble_eq_true rfl) dX4_keep_40 ⟨by (try dsimp only) <;> omega, by (try dsimp only) <;> omega⟩ (fun H locs hP hD hS => ?_)
  refine kr_lastN hx hb hK hP hD hS 39 2 (by decide) (fun _ => E_words _ _ _ _) rfl (j := ((sz * 4) + 0)) (by omega) hnw dX4_keep_43 (fun H locs hP hD hS => ?_)
  refine lv_iinc (v := 1) (lv' := [(2, .int 1), (0, .ref (ad 38)), (1, .ref (ad (14 + 1)))]) hx hb dX4_keep_44 hl (k := 0) rfl (by decide) (by decide) rfl (fun ls hl => ?_)
  refine lv_goto (tgt := 21) hx hb dX4_keep_47 (by decide) ?_
  refine lv_iload_n hx hb dX4_keep_21 rfl (lv_at hl 0 rfl) ?_
  refine lv_iconst (v := 4) hx hb dX4_keep_22 (by decide) ?_
  refine lv_icmp_ge (tgt := 50) hx hb dX4_keep_23 (by decide) (fun c_3 => absurd c_3 (by decide)) (fun c_3 => ?_)
  refine lv_aload_n hx hb dX4_keep_26 rfl (lv_at hl 1 rfl) ?_
  refine kr_get (C := "MonitorWays$States") (T := TX4) (N := 3) hx hb hts hin_X4 hown hK hP 38 (by decide) (E_sts _ _ _ _) rfl 1 (by decide) lk_f15 (fun _ h9 => h9) rfl dX4_keep_27 ?_
  refine lv_aload_n hx hb dX4_keep_30 rfl (lv_at hl 1 rfl) ?_
  refine kr_get (C := "MonitorWays$States") (T := TX4) (N := 3) hx hb hts hin_X4 hown hK hP 38 (by decide) (E_sts _ _ _ _) rfl 0 (by decide) lk_f23 (fun _ h9 => h9) rfl dX4_keep_31 ?_
  refine kr_topi (y := nI sz) hsz ?_
  refine lv_iconst (v := 4) hx hb dX4_keep_34 (by decide) ?_
  refine lv_imul hx hb dX4_keep_35 ?_
  refine kr_topi (y := nI (sz * 4)) (pk_mul sz 4) ?_
  refine lv_iload_n hx hb dX4_keep_36 rfl (lv_at hl 0 rfl) ?_
  refine lv_iadd hx hb dX4_keep_37 ?_
  refine kr_topi (y := nI ((sz * 4) + 1)) (nI_add (sz * 4) 1) ?_
  refine lv_aload_n hx hb dX4_keep_38 rfl (lv_at hl 2 rfl) ?_
  refine lv_iload_n hx hb dX4_keep_39 rfl (lv_at hl 0 rfl) ?_
  refine kr_callVl (As := [.int 1]) (rest := [.int (nI ((sz * 4) + 1)), .ref (ad 39)]) ⟨hx, hb, hml, hown, hts⟩ (c_aWord l D gc ad ln iv (up2L lv 39 ((sz * 4) + 0) (r_aWord iv 1 0 (iv (28 + 2 * 1 + 0) 2).toNatClampNeg)) 1 1 (by decide) (by decide) (iv (28 + 2 * 1 + 1) 2).toNatClampNeg (fun _ => vn_eq hz1) (Nat.le_of_lt_succ (vn_lt hz1))) (cwV 1 hts (goodV (fun _ h => tcons h) tw_460 tw_461 tw_462 tw_3 tw_463) rfl rfl rfl (by decide +kernel) ⟨Nat.le_of_ble_eq_true rfl, Nat.le_of_ble_eq_true rfl⟩) (kr_recv hK hP (14 + 1) (by omega) (E_mach (by decide) _ _ _ _) rfl) hK hP hD hS hA rfl hl.1 rfl (Nat.le_of_ble_eq_true rfl) dX4_keep_40 ⟨by (try dsimp only) <;> omega, by (try dsimp only) <;> omega⟩ (fun H locs hP hD hS => ?_)
  refine kr_lastN hx hb hK hP hD hS 39 2 (by decide) (fun _ => E_words _ _ _ _) rfl (j := ((sz * 4) + 1)) (by omega) hnw dX4_keep_43 (fun H locs hP hD hS => ?_)
  refine lv_iinc (v := 2) (lv' := [(2, .int 2), (0, .ref (ad 38)), (1, .ref (ad (14 + 1)))]) hx hb dX4_keep_44 hl (k := 0) rfl (by decide) (by decide) rfl (fun ls hl => ?_)
  refine lv_goto (tgt := 21) hx hb dX4_keep_47 (by decide) ?_
  refine lv_iload_n hx hb dX4_keep_21 rfl (lv_at hl 0 rfl) ?_
  refine lv_iconst (v := 4) hx hb dX4_keep_22 (by decide) ?_
  refine lv_icmp_ge (tgt := 50) hx hb dX4_keep_23 (by decide) (fun c_4 => absurd c_4 (by decide)) (fun c_4 => ?_)
  refine lv_aload_n hx hb dX4_keep_26 rfl (lv_at hl 1 rfl) ?_
  refine kr_get (C := "MonitorWays$States") (T := TX4) (N := 3) hx hb hts hin_X4 hown hK hP 38 (by decide) (E_sts _ _ _ _) rfl 1 (by decide) lk_f15 (fun _ h9 => h9) rfl dX4_keep_27 ?_
  refine lv_aload_n hx hb dX4_keep_30 rfl (lv_at hl 1 rfl) ?_
  refine kr_get (C := "MonitorWays$States") (T := TX4) (N := 3) hx hb hts hin_X4 hown hK hP 38 (by decide) (E_sts _ _ _ _) rfl 0 (by decide) lk_f23 (fun _ h9 => h9) rfl dX4_keep_31 ?_
  refine kr_topi (y := nI sz) hsz ?_
  refine lv_iconst (v := 4) hx hb dX4_keep_34 (by decide) ?_
  refine lv_imul hx hb dX4_keep_35 ?_
  refine kr_topi (y := nI (sz * 4)) (pk_mul sz 4) ?_
  refine lv_iload_n hx hb dX4_keep_36 rfl (lv_at hl 0 rfl) ?_
  refine lv_iadd hx hb dX4_keep_37 ?_
  refine kr_topi (y := nI ((sz * 4) + 2)) (nI_add (sz * 4) 2) ?_
  refine lv_aload_n hx hb dX4_keep_38 rfl (lv_at hl 2 rfl) ?_
  refine lv_iload_n hx hb dX4_keep_39 rfl (lv_at hl 0 rfl) ?_
  refine kr_callVl (As := [.int 2]) (rest := [.int (nI ((sz * 4) + 2)), .ref (ad 39)]) ⟨hx, hb, hml, hown, hts⟩ (c_aWord l D gc ad ln iv (up2L (up2L lv 39 ((sz * 4) + 0) (r_aWord iv 1 0 (iv (28 + 2 * 1 + 0) 2).toNatClampNeg)) 39 ((sz * 4) + 1) (r_aWord iv 1 1 (iv (28 + 2 * 1 + 1) 2).toNatClampNeg)) 1 2 (by decide) (by decide) 0 (fun h => absurd h (by decide)) (by decide)) (cwV 1 hts (goodV (fun _ h => tcons h) tw_460 tw_461 tw_462 tw_3 tw_463) rfl rfl rfl (by decide +kernel) ⟨Nat.le_of_ble_eq_true rfl, Nat.le_of_ble_eq_true rfl⟩) (kr_recv hK hP (14 + 1) (by omega) (E_mach (by decide) _ _ _ _) rfl) hK hP hD hS hA rfl hl.1 rfl (Nat.le_of_ble_eq_true rfl) dX4_keep_40 ⟨by (try dsimp only) <;> omega, by (try dsimp only) <;> omega⟩ (fun H locs hP hD hS => ?_)
  refine kr_lastN hx hb hK hP hD hS 39 2 (by decide) (fun _ => E_words _ _ _ _) rfl (j := ((sz * 4) + 2)) (by omega) hnw dX4_keep_43 (fun H locs hP hD hS => ?_)
  refine lv_iinc (v := 3) (lv' := [(2, .int 3), (0, .ref (ad 38)), (1, .ref (ad (14 + 1)))]) hx hb dX4_keep_44 hl (k := 0) rfl (by decide) (by decide) rfl (fun ls hl => ?_)
  refine lv_goto (tgt := 21) hx hb dX4_keep_47 (by decide) ?_
  refine lv_iload_n hx hb dX4_keep_21 rfl (lv_at hl 0 rfl) ?_
  refine lv_iconst (v := 4) hx hb dX4_keep_22 (by decide) ?_
  refine lv_icmp_ge (tgt := 50) hx hb dX4_keep_23 (by decide) (fun c_5 => absurd c_5 (by decide)) (fun c_5 => ?_)
  refine lv_aload_n hx hb dX4_keep_26 rfl (lv_at hl 1 rfl) ?_
  refine kr_get (C := "MonitorWays$States") (T := TX4) (N := 3) hx hb hts hin_X4 hown hK hP 38 (by decide) (E_sts _ _ _ _) rfl 1 (by decide) lk_f15 (fun _ h9 => h9) rfl dX4_keep_27 ?_
  refine lv_aload_n hx hb dX4_keep_30 rfl (lv_at hl 1 rfl) ?_
  refine kr_get (C := "MonitorWays$States") (T := TX4) (N := 3) hx hb hts hin_X4 hown hK hP 38 (by decide) (E_sts _ _ _ _) rfl 0 (by decide) lk_f23 (fun _ h9 => h9) rfl dX4_keep_31 ?_
  refine kr_topi (y := nI sz) hsz ?_
  refine lv_iconst (v := 4) hx hb dX4_keep_34 (by decide) ?_
  refine lv_imul hx hb dX4_keep_35 ?_
  refine kr_topi (y := nI (sz * 4)) (pk_mul sz 4) ?_
  refine lv_iload_n hx hb dX4_keep_36 rfl (lv_at hl 0 rfl) ?_
  refine lv_iadd hx hb dX4_keep_37 ?_
  refine kr_topi (y := nI ((sz * 4) + 3)) (nI_add (sz * 4) 3) ?_
  refine lv_aload_n hx hb dX4_keep_38 rfl (lv_at hl 2 rfl) ?_
  refine lv_iload_n hx hb dX4_keep_39 rfl (lv_at hl 0 rfl) ?_
  refine kr_callVl (As := [.int 3]) (rest := [.int (nI ((sz * 4) + 3)), .ref (ad 39)]) ⟨hx, hb, hml, hown, hts⟩ (c_aWord l D gc ad ln iv (up2L (up2L (up2L lv 39 ((sz * 4) + 0) (r_aWord iv 1 0 (iv (28 + 2 * 1 + 0) 2).toNatClampNeg)) 39 ((sz * 4) + 1) (r_aWord iv 1 1 (iv (28 + 2 * 1 + 1) 2).toNatClampNeg)) 39 ((sz * 4) + 2) (r_aWord iv 1 2 0)) 1 3 (by decide) (by decide) 0 (fun h => absurd h (by decide)) (by decide)) (cwV 1 hts (goodV (fun _ h => tcons h) tw_460 tw_461 tw_462 tw_3 tw_463) rfl rfl rfl (by decide +kernel) ⟨Nat.le_of_ble_eq_true rfl, Nat.le_of_ble_eq_true rfl⟩) (kr_recv hK hP (14 + 1) (by omega) (E_mach (by decide) _ _ _ _) rfl) hK hP hD hS hA rfl hl.1 rfl (Nat.le_of_ble_eq_true rfl) dX4_keep_40 ⟨by (try dsimp only) <;> omega, by (try dsimp only) <;> omega⟩ (fun H locs hP hD hS => ?_)
  refine kr_lastN hx hb hK hP hD hS 39 2 (by decide) (fun _ => E_words _ _ _ _) rfl (j := ((sz * 4) + 3)) (by omega) hnw dX4_keep_43 (fun H locs hP hD hS => ?_)
  refine lv_iinc (v := 4) (lv' := [(2, .int 4), (0, .ref (ad 38)), (1, .ref (ad (14 + 1)))]) hx hb dX4_keep_44 hl (k := 0) rfl (by decide) (by decide) rfl (fun ls hl => ?_)
  refine lv_goto (tgt := 21) hx hb dX4_keep_47 (by decide) ?_
  refine lv_iload_n hx hb dX4_keep_21 rfl (lv_at hl 0 rfl) ?_
  refine lv_iconst (v := 4) hx hb dX4_keep_22 (by decide) ?_
  refine lv_icmp_ge (tgt := 50) hx hb dX4_keep_23 (by decide) (fun c_6 => ?_) (fun c_6 => absurd (by decide) c_6)
  refine lv_aload_n hx hb dX4_keep_50 rfl (lv_at hl 1 rfl) ?_
  refine lv_aload_n hx hb dX4_keep_51 rfl (lv_at hl 1 rfl) ?_
  refine kr_get (C := "MonitorWays$States") (T := TX4) (N := 3) hx hb hts hin_X4 hown hK hP 38 (by decide) (E_sts _ _ _ _) rfl 0 (by decide) lk_f23 (fun _ h9 => h9) rfl dX4_keep_52 ?_
  refine kr_topi (y := nI sz) hsz ?_
  refine kr_callVi (As := [.int (nI sz)]) (rest := []) ⟨hx, hb, hml, hown, hts⟩ (c_sSlot l D gc ad ln iv (up2L (up2L (up2L (up2L lv 39 ((sz * 4) + 0) (r_aWord iv 1 0 (iv (28 + 2 * 1 + 0) 2).toNatClampNeg)) 39 ((sz * 4) + 1) (r_aWord iv 1 1 (iv (28 + 2 * 1 + 1) 2).toNatClampNeg)) 39 ((sz * 4) + 2) (r_aWord iv 1 2 0)) 39 ((sz * 4) + 3) (r_aWord iv 1 3 0)) sz (by omega) e (hkq.trans he0) (by omega) hnw hsl) (cwV 1 hts (goodV (fun _ h => tcons h) tw_447 tw_449 ts_17 tw_7 tw_450) rfl rfl rfl (by decide +kernel) ⟨Nat.le_of_ble_eq_true rfl, Nat.le_of_ble_eq_true rfl⟩) (kr_recv hK hP 38 (by decide) (E_sts _ _ _ _) rfl) hK hP hD hS hA rfl hl.1 rfl (Nat.le_of_ble_eq_true rfl) dX4_keep_55 ⟨by (try dsimp only) <;> omega, by (try dsimp only) <;> omega⟩ (fun H locs hP hD hS => ?_)
  refine kr_topi (y := nI (slN iv (up2L (up2L (up2L (up2L lv 39 ((sz * 4) + 0) (r_aWord iv 1 0 (iv (28 + 2 * 1 + 0) 2).toNatClampNeg)) 39 ((sz * 4) + 1) (r_aWord iv 1 1 (iv (28 + 2 * 1 + 1) 2).toNatClampNeg)) 39 ((sz * 4) + 2) (r_aWord iv 1 2 0)) 39 ((sz * 4) + 3) (r_aWord iv 1 3 0)) (ln 40) sz)) rfl ?_
  refine lv_istore_n (lv' := [(2, .int (nI (slN iv (up2L (up2L (up2L (up2L lv 39 ((sz * 4) + 0) (r_aWord iv 1 0 (iv (28 + 2 * 1 + 0) 2).toNatClampNeg)) 39 ((sz * 4) + 1) (r_aWord iv 1 1 (iv (28 + 2 * 1 + 1) 2).toNatClampNeg)) 39 ((sz * 4) + 2) (r_aWord iv 1 2 0)) 39 ((sz * 4) + 3) (r_aWord iv 1 3 0)) (ln 40) sz))), (0, .ref (ad 38)), (1, .ref (ad (14 + 1)))]) hx hb dX4_keep_58 rfl hl (by decide) rfl (fun ls hl => ?_)
  refine lv_aload_n hx hb dX4_keep_59 rfl (lv_at hl 1 rfl) ?_
  refine kr_get (C := "MonitorWays$States") (T := TX4) (N := 3) hx hb hts hin_X4 hown hK hP 38 (by decide) (E_sts _ _ _ _) rfl 2 (by decide) lk_f19 (fun _ h9 => h9) rfl dX4_keep_60 ?_
  refine lv_iload_n hx hb dX4_keep_63 rfl (lv_at hl 0 rfl) ?_
  refine kr_ialdN hx hb hK hP 40 0 (by decide) (E_slots _ _ _ _) rfl (j := (slN iv (up2L (up2L (up2L (up2L lv 39 ((sz * 4) + 0) (r_aWord iv 1 0 (iv (28 + 2 * 1 + 0) 2).toNatClampNeg)) 39 ((sz * 4) + 1) (r_aWord iv 1 1 (iv (28 + 2 * 1 + 1) 2).toNatClampNeg)) 39 ((sz * 4) + 2) (r_aWord iv 1 2 0)) 39 ((sz * 4) + 3) (r_aWord iv 1 3 0)) (ln 40) sz)) (prb_lt _ _ (Nat.mod_lt _ hpos)) hns dX4_keep_64 ?_
  refine lv_if_eq (tgt := 70) hx hb dX4_keep_65 (by decide) (fun c_7 => ?_) (fun c_7 => ?_)
  · refine lv_aload_n hx hb dX4_keep_70 rfl (lv_at hl 1 rfl) ?_
    refine kr_get (C := "MonitorWays$States") (T := TX4) (N := 3) hx hb hts hin_X4 hown hK hP 38 (by decide) (E_sts _ _ _ _) rfl 0 (by decide) lk_f23 (fun _ h9 => h9) rfl dX4_keep_71 ?_
    refine kr_topi (y := nI sz) hsz ?_
    refine lv_sipush (v := 3000) hx hb dX4_keep_74 (by decide) ?_
    refine lv_icmp_lt (tgt := 82) hx hb dX4_keep_77 (by decide) (fun c_8 => ?_) (fun c_8 => ?_)
    · refine lv_aload_n hx hb dX4_keep_82 rfl (lv_at hl 1 rfl) ?_
      refine lv_dup hx hb dX4_keep_83 rfl ?_
      refine kr_get (C := "MonitorWays$States") (T := TX4) (N := 3) hx hb hts hin_X4 hown hK hP 38 (by decide) (E_sts _ _ _ _) rfl 0 (by decide) lk_f23 (fun _ h9 => h9) rfl dX4_keep_84 ?_
      refine kr_topi (y := nI sz) hsz ?_
      refine lv_iconst (v := 1) hx hb dX4_keep_87 (by decide) ?_
      refine lv_iadd hx hb dX4_keep_88 ?_
      refine kr_topi (y := nI (sz + 1)) (nI_add sz 1) ?_
      refine kr_put (C := "MonitorWays$States") (T := TX4) (N := 3) hx hb hts hin_X4 tyX4 ok_tyX4 ok_nX4 hown hK hP hD hS 38 (by decide) (fun _ => E_sts _ _ _ _) rfl 0 (by decide) lk_f23 (fun _ h9 => h9) rfl rfl rfl rfl (fun _ => Nat.le_of_ble_eq_true rfl) (fun _ => rfl) dX4_keep_89 (fun H locs hP hD hS => ?_)
      refine lv_aload_n hx hb dX4_keep_92 rfl (lv_at hl 1 rfl) ?_
      refine kr_get (C := "MonitorWays$States") (T := TX4) (N := 3) hx hb hts hin_X4 hown hK hP 38 (by decide) (E_sts _ _ _ _) rfl 2 (by decide) lk_f19 (fun _ h9 => h9) rfl dX4_keep_93 ?_
      refine lv_iload_n hx hb dX4_keep_96 rfl (lv_at hl 0 rfl) ?_
      refine lv_aload_n hx hb dX4_keep_97 rfl (lv_at hl 1 rfl) ?_
      refine kr_get (C := "MonitorWays$States") (T := TX4) (N := 3) hx hb hts hin_X4 hown hK hP 38 (by decide) (E_sts _ _ _ _) rfl 0 (by decide) lk_f23 (fun _ h9 => h9) rfl dX4_keep_98 ?_
      refine kr_topi (y := nI (sz + 1)) up2_s ?_
      refine kr_iastN hx hb hK hP hD hS 40 0 (by decide) (fun _ => E_slots _ _ _ _) rfl (j := (slN iv (up2L (up2L (up2L (up2L lv 39 ((sz * 4) + 0) (r_aWord iv 1 0 (iv (28 + 2 * 1 + 0) 2).toNatClampNeg)) 39 ((sz * 4) + 1) (r_aWord iv 1 1 (iv (28 + 2 * 1 + 1) 2).toNatClampNeg)) 39 ((sz * 4) + 2) (r_aWord iv 1 2 0)) 39 ((sz * 4) + 3) (r_aWord iv 1 3 0)) (ln 40) sz)) (prb_lt _ _ (Nat.mod_lt _ hpos)) hns dX4_keep_101 (fun H locs hP hD hS => ?_)
      refine lv_iconst (v := 1) hx hb dX4_keep_102 (by decide) ?_
      exact kr_zretX (M := M0) hx hb hr hlocks hK hP hD hS (by decide) (by unfold r_sKeep; rw [if_pos c_7, if_pos c_8]) (mem3 (by unfold m_sKeep; first | (rw [if_pos c_7, if_pos c_8]; done) | simp only [if_pos c_7, if_pos c_8]) (by unfold n_sKeep; first | (rw [if_pos c_7, if_pos c_8]; done) | simp only [if_pos c_7, if_pos c_8])) hag dX4_keep_103
    · refine lv_iconst (v := 0) hx hb dX4_keep_80 (by decide) ?_
      exact kr_zretX (M := M0) hx hb hr hlocks hK hP hD hS (by decide) (by unfold r_sKeep; rw [if_pos c_7, if_neg c_8]) (mem3 (by unfold m_sKeep; first | (rw [if_pos c_7, if_neg c_8]; done) | simp only [if_pos c_7, if_neg c_8]) (by unfold n_sKeep; first | (rw [if_pos c_7, if_neg c_8]; done) | simp only [if_pos c_7, if_neg c_8])) hag dX4_keep_81
  · refine lv_iconst (v := 1) hx hb dX4_keep_68 (by decide) ?_
    exact kr_zretX (M := M0) hx hb hr hlocks hK hP hD hS (by decide) (by unfold r_sKeep; rw [if_neg c_7]) (mem3 (by unfold m_sKeep; first | (rw [if_neg c_7]; done) | simp only [if_neg c_7]) (by unfold n_sKeep; first | (rw [if_neg c_7]; done) | simp only [if_neg c_7])) hag dX4_keep_69
def kpM (x : KM2) (sz : Nat) : KM2 := (x.1, m_sKeep x.2.1 x.2.2 x.1 sz, n_sKeep x.2.1 x.2.2 x.1 sz)
theorem okK_grow {ln : Nat → Nat} {iv : Nat → Nat → Int32} {lv : Nat → Nat → Int64} {sz kq e : Nat} (h : okK ln iv sz kq e) (he : e ≤ 10) (hs : sz ≤ kq * 3) : okK (gwM ln iv lv (kq * 4) sz).1 (gwM ln iv lv (kq * 4) sz).2.1 sz (kq * 4) (e + 2) := by
  obtain ⟨hsz, hs3, hkq, he0, he12, he2, hw, hz0, hz1, hsl⟩ := h
  have hkb : kq * 4 ≤ 1024 := by rw [he0]; exact Nat.pow_le_pow_right (n := 2) (by decide) he
  refine ⟨(congrFun (gwI_row (by decide) sz) 0).trans hsz, hs3, rfl, by rw [he0, Nat.pow_add], by omega, by omega, by show kq * 4 * 3 * 4 = kq * 4 * 4 * 3; omega, ?_, ?_, gwI_ok (sz := sz) okSl_0 (by show 4 * sz ≤ kq * 4 * 3 * 4; omega) (by omega) sz (Nat.le_refl _)⟩
  · show vp_in ((gwI (ivG iv) (lvG lv (kq * 4)) (kq * 4 * 4) sz) 30 2) 5
    rw [gwI_row (by decide)]; exact hz0
  · show vp_in ((gwI (ivG iv) (lvG lv (kq * 4)) (kq * 4 * 4) sz) 31 2) 5
    rw [gwI_row (by decide)]; exact hz1
set_option maxHeartbeats 4000000 in
set_option maxRecDepth 100000 in
theorem c_sKeepG (l : Launch) (D : va_G) (gc : Nat → ClassId) (ad ln : Nat → Nat) (iv : Nat → Nat → Int32) (lv : Nat → Nat → Int64) (sz kq e : Nat) (hok9 : okK ln iv sz kq e) (he10 : e ≤ 10) (heq : sz = kq * 3) : kMiX l yX4_keep wX4_keep ({ frames := 4, cells := 2, slots := kq * 4 * 16, locals := 200 }) D vwCl (kT gc) 42 (kE gc) [.ref (ad 38), .ref (ad (14 + 1))] (ad, ln, iv, lv) (kpM (gwM ln iv lv (kq * 4) sz) sz) (r_sKeep (gwM ln iv lv (kq * 4) sz).2.1 (gwM ln iv lv (kq * 4) sz).2.2 (gwM ln iv lv (kq * 4) sz).1 sz) := by
  refine kiX_start (cc := cX4_keep) (maxL := 3) (ret := (some .boolean)) (by decide) rfl (Nat.le_of_ble_eq_true rfl) ?_
  intro p9 e9 s m9 below meth c9 A ls hx hb hr hts hown hlocks hml hA hK hP hD hS hl
  obtain ⟨M0, hM0⟩ : ∃ z : KM, z = (ad, ln, iv, lv) := ⟨_, rfl⟩
  rw [← hM0]
  have hag : ∀ c, c < 39 → ad c = M0.1 c := fun c _ => by rw [hM0]
  have hl : lv_has ls 3 [(0, .ref (ad 38)), (1, .ref (ad (14 + 1)))] := hl
  have hown : s.vm.findClass "MonitorWays$States" = some m9.cls := hown
  have hin_X4 : ∀ w ∈ u_ws "MonitorWays$States" TX4 3, w ∈ wX4_keep := fun w h => tcons (inX4 w h)
  have lk_f23 := hts _ (tcons tw_153)
  have lk_f19 := hts _ (tcons tw_155)
  have lk_f15 := hts _ (tcons tw_154)
  have hle : sz ≤ kq * 3 := Nat.le_of_eq heq
  have hok := hok9
  obtain ⟨hsz, hs3, hkq, he0, he12, he2, hw, hz0, hz1, hsl⟩ := hok
  have hkb : kq * 4 ≤ 4096 := by rw [he0]; exact Nat.pow_le_pow_right (n := 2) (by decide) he12
  have hkp : 4 ≤ kq * 4 := by rw [he0]; exact Nat.pow_le_pow_right (n := 2) (by decide) he2
  have hnw : ln 39 < 2 ^ 31 := by omega
  have hns : ln 40 < 2 ^ 31 := by omega
  have hpos : 0 < ln 40 := by omega
  refine lv_aload_n hx hb dX4_keep_0 rfl (lv_at hl 0 rfl) ?_
  refine kr_get (C := "MonitorWays$States") (T := TX4) (N := 3) hx hb hts hin_X4 hown hK hP 38 (by decide) (E_sts _ _ _ _) rfl 0 (by decide) lk_f23 (fun _ h9 => h9) rfl dX4_keep_1 ?_
  refine kr_topi (y := nI sz) hsz ?_
  refine lv_aload_n hx hb dX4_keep_4 rfl (lv_at hl 0 rfl) ?_
  refine kr_get (C := "MonitorWays$States") (T := TX4) (N := 3) hx hb hts hin_X4 hown hK hP 38 (by decide) (E_sts _ _ _ _) rfl 2 (by decide) lk_f19 (fun _ h9 => h9) rfl dX4_keep_5 ?_
  refine kr_alen hx hb hK hP 40 0 (by decide) (E_slots _ _ _ _) rfl rfl dX4_keep_8 ?_
  refine kr_topi (y := nI (kq * 4)) (congrArg nI hkq) ?_
  refine kr_callSi (As := [.int (nI (kq * 4))]) (rest := [.int (nI sz)]) ⟨hx, hb, hml, hown, hts⟩ (c_sRoom l D gc ad ln iv lv (nI (kq * 4))) (cwS 1 hts (goodS (fun _ h => tcons h) tw_150 tw_151 tw_7 tw_152) rfl rfl rfl (by decide +kernel) ⟨Nat.le_of_ble_eq_true rfl, Nat.le_of_ble_eq_true rfl⟩) hK hP hD hS hA rfl hl.1 rfl (Nat.le_of_ble_eq_true rfl) dX4_keep_9 ⟨by (try dsimp only) <;> omega, by (try dsimp only) <;> omega⟩ (fun H locs hP hD hS => ?_)
  refine kr_topi (y := nI (kq * 3)) (sRoom4 _ (by omega)) ?_
  refine lv_icmp_lt (tgt := 19) hx hb dX4_keep_12 (by decide) (fun c_1 => absurd c_1 (fun h => absurd ((nI_ltI (by omega) (by omega)).mp h) (by omega))) (fun c_1 => ?_)
  refine lv_aload_n hx hb dX4_keep_15 rfl (lv_at hl 0 rfl) ?_
  refine kr_callVvX (As := []) (rest := []) ⟨hx, hb, hml, hown, hts⟩ (c_sGrow l D gc ad ln iv lv (kq * 4) e sz hkq he0 he2 he10 hw hsz (by omega)) (cwV 0 hts (goodV (fun _ h => tcons h) tw_427 tw_429 ts_16 tw_7 tw_430) rfl rfl rfl (by decide +kernel) ⟨Nat.le_of_ble_eq_true rfl, Nat.le_of_ble_eq_true rfl⟩) (kr_recv hK hP 38 (by decide) (E_sts _ _ _ _) rfl) hK hP hD hS hA rfl hl.1 rfl (Nat.le_of_ble_eq_true rfl) dX4_keep_16 ⟨by (try dsimp only) <;> omega, by (try dsimp only) <;> omega⟩ (fun ad1 H locs hag1 hP hD hS => ?_)
  have eq0 : ad 38 = ad1 38 := (hag1 38 (by decide)).symm
  rw [eq0] at hl
  have eq1 : ad (14 + 1) = ad1 (14 + 1) := (hag1 (14 + 1) (by decide)).symm
  rw [eq1] at hl
  have hag : ∀ c, c < 39 → ad1 c = M0.1 c := fun c hc => (hag1 c hc).trans (hag c hc)
  clear eq0 eq1
  obtain ⟨ad, had⟩ : ∃ z : Nat → Nat, z = ad1 := ⟨_, rfl⟩
  rw [← had] at hP hD hl hag
  have hok2 := okK_grow (lv := lv) hok9 he10 hle
  obtain ⟨ln2, hlnE⟩ : ∃ z : Nat → Nat, z = (gwM ln iv lv (kq * 4) sz).1 := ⟨_, rfl⟩
  obtain ⟨iv2, hivE⟩ : ∃ z : Nat → Nat → Int32, z = (gwM ln iv lv (kq * 4) sz).2.1 := ⟨_, rfl⟩
  obtain ⟨lv2, hlvE⟩ : ∃ z : Nat → Nat → Int64, z = (gwM ln iv lv (kq * 4) sz).2.2 := ⟨_, rfl⟩
  have hP : va_P D vwCl (mW 42 (kE gc) (ad, ln2, iv2, lv2)) H := by rw [hlnE, hivE, hlvE]; exact hP
  have hD : va_D A (mW 42 (kE gc) (ad, ln2, iv2, lv2)) := by rw [hlnE, hivE, hlvE]; exact hD
  rw [← hlnE, ← hivE] at hok2
  have hME : kpM (gwM ln iv lv (kq * 4) sz) sz = kpM (ln2, iv2, lv2) sz := by rw [hlnE, hivE, hlvE]
  rw [hME]
  have hRE : r_sKeep (gwM ln iv lv (kq * 4) sz).2.1 (gwM ln iv lv (kq * 4) sz).2.2 (gwM ln iv lv (kq * 4) sz).1 sz = r_sKeep iv2 lv2 ln2 sz := by rw [hlnE, hivE, hlvE]
  rw [hRE]
  clear hsz hkq hw hz0 hz1 hsl hnw hns hpos hlnE hivE hlvE hME hRE
  obtain ⟨ln, rfl⟩ : ∃ z, z = ln2 := ⟨_, rfl⟩
  obtain ⟨iv, rfl⟩ : ∃ z, z = iv2 := ⟨_, rfl⟩
  obtain ⟨lv, rfl⟩ : ∃ z, z = lv2 := ⟨_, rfl⟩
  obtain ⟨hsz, -, hkq, he1, he12, -, hw, hz0, hz1, hsl⟩ := hok2
  have hnw : ln 39 < 2 ^ 31 := by omega
  have hns : ln 40 < 2 ^ 31 := by omega
  have hpos : 0 < ln 40 := by omega
  refine lv_iconst (v := 0) hx hb dX4_keep_19 (by decide) ?_
  refine lv_istore_n (lv' := [(2, .int 0), (0, .ref (ad 38)), (1, .ref (ad (14 + 1)))]) hx hb dX4_keep_20 rfl hl (by decide) rfl (fun ls hl => ?_)
  refine lv_iload_n hx hb dX4_keep_21 rfl (lv_at hl 0 rfl) ?_
  refine lv_iconst (v := 4) hx hb dX4_keep_22 (by decide) ?_
  refine lv_icmp_ge (tgt := 50) hx hb dX4_keep_23 (by decide) (fun c_2 => absurd c_2 (by decide)) (fun c_2 => ?_)
  refine lv_aload_n hx hb dX4_keep_26 rfl (lv_at hl 1 rfl) ?_
  refine kr_get (C := "MonitorWays$States") (T := TX4) (N := 3) hx hb hts hin_X4 hown hK hP 38 (by decide) (E_sts _ _ _ _) rfl 1 (by decide) lk_f15 (fun _ h9 => h9) rfl dX4_keep_27 ?_
  refine lv_aload_n hx hb dX4_keep_30 rfl (lv_at hl 1 rfl) ?_
  refine kr_get (C := "MonitorWays$States") (T := TX4) (N := 3) hx hb hts hin_X4 hown hK hP 38 (by decide) (E_sts _ _ _ _) rfl 0 (by decide) lk_f23 (fun _ h9 => h9) rfl dX4_keep_31 ?_
  refine kr_topi (y := nI sz) hsz ?_
  refine lv_iconst (v := 4) hx hb dX4_keep_34 (by decide) ?_
  refine lv_imul hx hb dX4_keep_35 ?_
  refine kr_topi (y := nI (sz * 4)) (pk_mul sz 4) ?_
  refine lv_iload_n hx hb dX4_keep_36 rfl (lv_at hl 0 rfl) ?_
  refine lv_iadd hx hb dX4_keep_37 ?_
  refine kr_topi (y := nI ((sz * 4) + 0)) (nI_add (sz * 4) 0) ?_
  refine lv_aload_n hx hb dX4_keep_38 rfl (lv_at hl 2 rfl) ?_
  refine lv_iload_n hx hb dX4_keep_39 rfl (lv_at hl 0 rfl) ?_
  refine kr_callVl (As := [.int 0]) (rest := [.int (nI ((sz * 4) + 0)), .ref (ad 39)]) ⟨hx, hb, hml, hown, hts⟩ (c_aWord l D gc ad ln iv lv 1 0 (by decide) (by decide) (iv (28 + 2 * 1 + 0) 2).toNatClampNeg (fun _ => vn_eq hz0) (Nat.le_of_lt_succ (vn_lt hz0))) (cwV 1 hts (goodV (fun _ h => tcons h) tw_460 tw_461 tw_462 tw_3 tw_463) rfl rfl rfl (by decide +kernel) ⟨Nat.le_of_ble_eq_true rfl, Nat.le_of_ble_eq_true rfl⟩) (kr_recv hK hP (14 + 1) (by omega) (E_mach (by decide) _ _ _ _) rfl) hK hP hD hS hA rfl hl.1 rfl (Nat.le_of_ble_eq_true rfl) dX4_keep_40 ⟨by (try dsimp only) <;> omega, by (try dsimp only) <;> omega⟩ (fun H locs hP hD hS => ?_)
  refine kr_lastN hx hb hK hP hD hS 39 2 (by decide) (fun _ => E_words _ _ _ _) rfl (j := ((sz * 4) + 0)) (by omega) hnw dX4_keep_43 (fun H locs hP hD hS => ?_)
  refine lv_iinc (v := 1) (lv' := [(2, .int 1), (0, .ref (ad 38)), (1, .ref (ad (14 + 1)))]) hx hb dX4_keep_44 hl (k := 0) rfl (by decide) (by decide) rfl (fun ls hl => ?_)
  refine lv_goto (tgt := 21) hx hb dX4_keep_47 (by decide) ?_
  refine lv_iload_n hx hb dX4_keep_21 rfl (lv_at hl 0 rfl) ?_
  refine lv_iconst (v := 4) hx hb dX4_keep_22 (by decide) ?_
  refine lv_icmp_ge (tgt := 50) hx hb dX4_keep_23 (by decide) (fun c_3 => absurd c_3 (by decide)) (fun c_3 => ?_)
  refine lv_aload_n hx hb dX4_keep_26 rfl (lv_at hl 1 rfl) ?_
  refine kr_get (C := "MonitorWays$States") (T := TX4) (N := 3) hx hb hts hin_X4 hown hK hP 38 (by decide) (E_sts _ _ _ _) rfl 1 (by decide) lk_f15 (fun _ h9 => h9) rfl dX4_keep_27 ?_
  refine lv_aload_n hx hb dX4_keep_30 rfl (lv_at hl 1 rfl) ?_
  refine kr_get (C := "MonitorWays$States") (T := TX4) (N := 3) hx hb hts hin_X4 hown hK hP 38 (by decide) (E_sts _ _ _ _) rfl 0 (by decide) lk_f23 (fun _ h9 => h9) rfl dX4_keep_31 ?_
  refine kr_topi (y := nI sz) hsz ?_
  refine lv_iconst (v := 4) hx hb dX4_keep_34 (by decide) ?_
  refine lv_imul hx hb dX4_keep_35 ?_
  refine kr_topi (y := nI (sz * 4)) (pk_mul sz 4) ?_
  refine lv_iload_n hx hb dX4_keep_36 rfl (lv_at hl 0 rfl) ?_
  refine lv_iadd hx hb dX4_keep_37 ?_
  refine kr_topi (y := nI ((sz * 4) + 1)) (nI_add (sz * 4) 1) ?_
  refine lv_aload_n hx hb dX4_keep_38 rfl (lv_at hl 2 rfl) ?_
  refine lv_iload_n hx hb dX4_keep_39 rfl (lv_at hl 0 rfl) ?_
  refine kr_callVl (As := [.int 1]) (rest := [.int (nI ((sz * 4) + 1)), .ref (ad 39)]) ⟨hx, hb, hml, hown, hts⟩ (c_aWord l D gc ad ln iv (up2L lv 39 ((sz * 4) + 0) (r_aWord iv 1 0 (iv (28 + 2 * 1 + 0) 2).toNatClampNeg)) 1 1 (by decide) (by decide) (iv (28 + 2 * 1 + 1) 2).toNatClampNeg (fun _ => vn_eq hz1) (Nat.le_of_lt_succ (vn_lt hz1))) (cwV 1 hts (goodV (fun _ h => tcons h) tw_460 tw_461 tw_462 tw_3 tw_463) rfl rfl rfl (by decide +kernel) ⟨Nat.le_of_ble_eq_true rfl, Nat.le_of_ble_eq_true rfl⟩) (kr_recv hK hP (14 + 1) (by omega) (E_mach (by decide) _ _ _ _) rfl) hK hP hD hS hA rfl hl.1 rfl (Nat.le_of_ble_eq_true rfl) dX4_keep_40 ⟨by (try dsimp only) <;> omega, by (try dsimp only) <;> omega⟩ (fun H locs hP hD hS => ?_)
  refine kr_lastN hx hb hK hP hD hS 39 2 (by decide) (fun _ => E_words _ _ _ _) rfl (j := ((sz * 4) + 1)) (by omega) hnw dX4_keep_43 (fun H locs hP hD hS => ?_)
  refine lv_iinc (v := 2) (lv' := [(2, .int 2), (0, .ref (ad 38)), (1, .ref (ad (14 + 1)))]) hx hb dX4_keep_44 hl (k := 0) rfl (by decide) (by decide) rfl (fun ls hl => ?_)
  refine lv_goto (tgt := 21) hx hb dX4_keep_47 (by decide) ?_
  refine lv_iload_n hx hb dX4_keep_21 rfl (lv_at hl 0 rfl) ?_
  refine lv_iconst (v := 4) hx hb dX4_keep_22 (by decide) ?_
  refine lv_icmp_ge (tgt := 50) hx hb dX4_keep_23 (by decide) (fun c_4 => absurd c_4 (by decide)) (fun c_4 => ?_)
  refine lv_aload_n hx hb dX4_keep_26 rfl (lv_at hl 1 rfl) ?_
  refine kr_get (C := "MonitorWays$States") (T := TX4) (N := 3) hx hb hts hin_X4 hown hK hP 38 (by decide) (E_sts _ _ _ _) rfl 1 (by decide) lk_f15 (fun _ h9 => h9) rfl dX4_keep_27 ?_
  refine lv_aload_n hx hb dX4_keep_30 rfl (lv_at hl 1 rfl) ?_
  refine kr_get (C := "MonitorWays$States") (T := TX4) (N := 3) hx hb hts hin_X4 hown hK hP 38 (by decide) (E_sts _ _ _ _) rfl 0 (by decide) lk_f23 (fun _ h9 => h9) rfl dX4_keep_31 ?_
  refine kr_topi (y := nI sz) hsz ?_
  refine lv_iconst (v := 4) hx hb dX4_keep_34 (by decide) ?_
  refine lv_imul hx hb dX4_keep_35 ?_
  refine kr_topi (y := nI (sz * 4)) (pk_mul sz 4) ?_
  refine lv_iload_n hx hb dX4_keep_36 rfl (lv_at hl 0 rfl) ?_
  refine lv_iadd hx hb dX4_keep_37 ?_
  refine kr_topi (y := nI ((sz * 4) + 2)) (nI_add (sz * 4) 2) ?_
  refine lv_aload_n hx hb dX4_keep_38 rfl (lv_at hl 2 rfl) ?_
  refine lv_iload_n hx hb dX4_keep_39 rfl (lv_at hl 0 rfl) ?_
  refine kr_callVl (As := [.int 2]) (rest := [.int (nI ((sz * 4) + 2)), .ref (ad 39)]) ⟨hx, hb, hml, hown, hts⟩ (c_aWord l D gc ad ln iv (up2L (up2L lv 39 ((sz * 4) + 0) (r_aWord iv 1 0 (iv (28 + 2 * 1 + 0) 2).toNatClampNeg)) 39 ((sz * 4) + 1) (r_aWord iv 1 1 (iv (28 + 2 * 1 + 1) 2).toNatClampNeg)) 1 2 (by decide) (by decide) 0 (fun h => absurd h (by decide)) (by decide)) (cwV 1 hts (goodV (fun _ h => tcons h) tw_460 tw_461 tw_462 tw_3 tw_463) rfl rfl rfl (by decide +kernel) ⟨Nat.le_of_ble_eq_true rfl, Nat.le_of_ble_eq_true rfl⟩) (kr_recv hK hP (14 + 1) (by omega) (E_mach (by decide) _ _ _ _) rfl) hK hP hD hS hA rfl hl.1 rfl (Nat.le_of_ble_eq_true rfl) dX4_keep_40 ⟨by (try dsimp only) <;> omega, by (try dsimp only) <;> omega⟩ (fun H locs hP hD hS => ?_)
  refine kr_lastN hx hb hK hP hD hS 39 2 (by decide) (fun _ => E_words _ _ _ _) rfl (j := ((sz * 4) + 2)) (by omega) hnw dX4_keep_43 (fun H locs hP hD hS => ?_)
  refine lv_iinc (v := 3) (lv' := [(2, .int 3), (0, .ref (ad 38)), (1, .ref (ad (14 + 1)))]) hx hb dX4_keep_44 hl (k := 0) rfl (by decide) (by decide) rfl (fun ls hl => ?_)
  refine lv_goto (tgt := 21) hx hb dX4_keep_47 (by decide) ?_
  refine lv_iload_n hx hb dX4_keep_21 rfl (lv_at hl 0 rfl) ?_
  refine lv_iconst (v := 4) hx hb dX4_keep_22 (by decide) ?_
  refine lv_icmp_ge (tgt := 50) hx hb dX4_keep_23 (by decide) (fun c_5 => absurd c_5 (by decide)) (fun c_5 => ?_)
  refine lv_aload_n hx hb dX4_keep_26 rfl (lv_at hl 1 rfl) ?_
  refine kr_get (C := "MonitorWays$States") (T := TX4) (N := 3) hx hb hts hin_X4 hown hK hP 38 (by decide) (E_sts _ _ _ _) rfl 1 (by decide) lk_f15 (fun _ h9 => h9) rfl dX4_keep_27 ?_
  refine lv_aload_n hx hb dX4_keep_30 rfl (lv_at hl 1 rfl) ?_
  refine kr_get (C := "MonitorWays$States") (T := TX4) (N := 3) hx hb hts hin_X4 hown hK hP 38 (by decide) (E_sts _ _ _ _) rfl 0 (by decide) lk_f23 (fun _ h9 => h9) rfl dX4_keep_31 ?_
  refine kr_topi (y := nI sz) hsz ?_
  refine lv_iconst (v := 4) hx hb dX4_keep_34 (by decide) ?_
  refine lv_imul hx hb dX4_keep_35 ?_
  refine kr_topi (y := nI (sz * 4)) (pk_mul sz 4) ?_
  refine lv_iload_n hx hb dX4_keep_36 rfl (lv_at hl 0 rfl) ?_
  refine lv_iadd hx hb dX4_keep_37 ?_
  refine kr_topi (y := nI ((sz * 4) + 3)) (nI_add (sz * 4) 3) ?_
  refine lv_aload_n hx hb dX4_keep_38 rfl (lv_at hl 2 rfl) ?_
  refine lv_iload_n hx hb dX4_keep_39 rfl (lv_at hl 0 rfl) ?_
  refine kr_callVl (As := [.int 3]) (rest := [.int (nI ((sz * 4) + 3)), .ref (ad 39)]) ⟨hx, hb, hml, hown, hts⟩ (c_aWord l D gc ad ln iv (up2L (up2L (up2L lv 39 ((sz * 4) + 0) (r_aWord iv 1 0 (iv (28 + 2 * 1 + 0) 2).toNatClampNeg)) 39 ((sz * 4) + 1) (r_aWord iv 1 1 (iv (28 + 2 * 1 + 1) 2).toNatClampNeg)) 39 ((sz * 4) + 2) (r_aWord iv 1 2 0)) 1 3 (by decide) (by decide) 0 (fun h => absurd h (by decide)) (by decide)) (cwV 1 hts (goodV (fun _ h => tcons h) tw_460 tw_461 tw_462 tw_3 tw_463) rfl rfl rfl (by decide +kernel) ⟨Nat.le_of_ble_eq_true rfl, Nat.le_of_ble_eq_true rfl⟩) (kr_recv hK hP (14 + 1) (by omega) (E_mach (by decide) _ _ _ _) rfl) hK hP hD hS hA rfl hl.1 rfl (Nat.le_of_ble_eq_true rfl) dX4_keep_40 ⟨by (try dsimp only) <;> omega, by (try dsimp only) <;> omega⟩ (fun H locs hP hD hS => ?_)
  refine kr_lastN hx hb hK hP hD hS 39 2 (by decide) (fun _ => E_words _ _ _ _) rfl (j := ((sz * 4) + 3)) (by omega) hnw dX4_keep_43 (fun H locs hP hD hS => ?_)
  refine lv_iinc (v := 4) (lv' := [(2, .int 4), (0, .ref (ad 38)), (1, .ref (ad (14 + 1)))]) hx hb dX4_keep_44 hl (k := 0) rfl (by decide) (by decide) rfl (fun ls hl => ?_)
  refine lv_goto (tgt := 21) hx hb dX4_keep_47 (by decide) ?_
  refine lv_iload_n hx hb dX4_keep_21 rfl (lv_at hl 0 rfl) ?_
  refine lv_iconst (v := 4) hx hb dX4_keep_22 (by decide) ?_
  refine lv_icmp_ge (tgt := 50) hx hb dX4_keep_23 (by decide) (fun c_6 => ?_) (fun c_6 => absurd (by decide) c_6)
  refine lv_aload_n hx hb dX4_keep_50 rfl (lv_at hl 1 rfl) ?_
  refine lv_aload_n hx hb dX4_keep_51 rfl (lv_at hl 1 rfl) ?_
  refine kr_get (C := "MonitorWays$States") (T := TX4) (N := 3) hx hb hts hin_X4 hown hK hP 38 (by decide) (E_sts _ _ _ _) rfl 0 (by decide) lk_f23 (fun _ h9 => h9) rfl dX4_keep_52 ?_
  refine kr_topi (y := nI sz) hsz ?_
  refine kr_callVi (As := [.int (nI sz)]) (rest := []) ⟨hx, hb, hml, hown, hts⟩ (c_sSlot l D gc ad ln iv (up2L (up2L (up2L (up2L lv 39 ((sz * 4) + 0) (r_aWord iv 1 0 (iv (28 + 2 * 1 + 0) 2).toNatClampNeg)) 39 ((sz * 4) + 1) (r_aWord iv 1 1 (iv (28 + 2 * 1 + 1) 2).toNatClampNeg)) 39 ((sz * 4) + 2) (r_aWord iv 1 2 0)) 39 ((sz * 4) + 3) (r_aWord iv 1 3 0)) sz (by omega) (e + 2) (hkq.trans he1) (by omega) hnw hsl) (cwV 1 hts (goodV (fun _ h => tcons h) tw_447 tw_449 ts_17 tw_7 tw_450) rfl rfl rfl (by decide +kernel) ⟨Nat.le_of_ble_eq_true rfl, Nat.le_of_ble_eq_true rfl⟩) (kr_recv hK hP 38 (by decide) (E_sts _ _ _ _) rfl) hK hP hD hS hA rfl hl.1 rfl (Nat.le_of_ble_eq_true rfl) dX4_keep_55 ⟨by (try dsimp only) <;> omega, by (try dsimp only) <;> omega⟩ (fun H locs hP hD hS => ?_)
  refine kr_topi (y := nI (slN iv (up2L (up2L (up2L (up2L lv 39 ((sz * 4) + 0) (r_aWord iv 1 0 (iv (28 + 2 * 1 + 0) 2).toNatClampNeg)) 39 ((sz * 4) + 1) (r_aWord iv 1 1 (iv (28 + 2 * 1 + 1) 2).toNatClampNeg)) 39 ((sz * 4) + 2) (r_aWord iv 1 2 0)) 39 ((sz * 4) + 3) (r_aWord iv 1 3 0)) (ln 40) sz)) rfl ?_
  refine lv_istore_n (lv' := [(2, .int (nI (slN iv (up2L (up2L (up2L (up2L lv 39 ((sz * 4) + 0) (r_aWord iv 1 0 (iv (28 + 2 * 1 + 0) 2).toNatClampNeg)) 39 ((sz * 4) + 1) (r_aWord iv 1 1 (iv (28 + 2 * 1 + 1) 2).toNatClampNeg)) 39 ((sz * 4) + 2) (r_aWord iv 1 2 0)) 39 ((sz * 4) + 3) (r_aWord iv 1 3 0)) (ln 40) sz))), (0, .ref (ad 38)), (1, .ref (ad (14 + 1)))]) hx hb dX4_keep_58 rfl hl (by decide) rfl (fun ls hl => ?_)
  refine lv_aload_n hx hb dX4_keep_59 rfl (lv_at hl 1 rfl) ?_
  refine kr_get (C := "MonitorWays$States") (T := TX4) (N := 3) hx hb hts hin_X4 hown hK hP 38 (by decide) (E_sts _ _ _ _) rfl 2 (by decide) lk_f19 (fun _ h9 => h9) rfl dX4_keep_60 ?_
  refine lv_iload_n hx hb dX4_keep_63 rfl (lv_at hl 0 rfl) ?_
  refine kr_ialdN hx hb hK hP 40 0 (by decide) (E_slots _ _ _ _) rfl (j := (slN iv (up2L (up2L (up2L (up2L lv 39 ((sz * 4) + 0) (r_aWord iv 1 0 (iv (28 + 2 * 1 + 0) 2).toNatClampNeg)) 39 ((sz * 4) + 1) (r_aWord iv 1 1 (iv (28 + 2 * 1 + 1) 2).toNatClampNeg)) 39 ((sz * 4) + 2) (r_aWord iv 1 2 0)) 39 ((sz * 4) + 3) (r_aWord iv 1 3 0)) (ln 40) sz)) (prb_lt _ _ (Nat.mod_lt _ hpos)) hns dX4_keep_64 ?_
  refine lv_if_eq (tgt := 70) hx hb dX4_keep_65 (by decide) (fun c_7 => ?_) (fun c_7 => ?_)
  · refine lv_aload_n hx hb dX4_keep_70 rfl (lv_at hl 1 rfl) ?_
    refine kr_get (C := "MonitorWays$States") (T := TX4) (N := 3) hx hb hts hin_X4 hown hK hP 38 (by decide) (E_sts _ _ _ _) rfl 0 (by decide) lk_f23 (fun _ h9 => h9) rfl dX4_keep_71 ?_
    refine kr_topi (y := nI sz) hsz ?_
    refine lv_sipush (v := 3000) hx hb dX4_keep_74 (by decide) ?_
    refine lv_icmp_lt (tgt := 82) hx hb dX4_keep_77 (by decide) (fun c_8 => ?_) (fun c_8 => ?_)
    · refine lv_aload_n hx hb dX4_keep_82 rfl (lv_at hl 1 rfl) ?_
      refine lv_dup hx hb dX4_keep_83 rfl ?_
      refine kr_get (C := "MonitorWays$States") (T := TX4) (N := 3) hx hb hts hin_X4 hown hK hP 38 (by decide) (E_sts _ _ _ _) rfl 0 (by decide) lk_f23 (fun _ h9 => h9) rfl dX4_keep_84 ?_
      refine kr_topi (y := nI sz) hsz ?_
      refine lv_iconst (v := 1) hx hb dX4_keep_87 (by decide) ?_
      refine lv_iadd hx hb dX4_keep_88 ?_
      refine kr_topi (y := nI (sz + 1)) (nI_add sz 1) ?_
      refine kr_put (C := "MonitorWays$States") (T := TX4) (N := 3) hx hb hts hin_X4 tyX4 ok_tyX4 ok_nX4 hown hK hP hD hS 38 (by decide) (fun _ => E_sts _ _ _ _) rfl 0 (by decide) lk_f23 (fun _ h9 => h9) rfl rfl rfl rfl (fun _ => Nat.le_of_ble_eq_true rfl) (fun _ => rfl) dX4_keep_89 (fun H locs hP hD hS => ?_)
      refine lv_aload_n hx hb dX4_keep_92 rfl (lv_at hl 1 rfl) ?_
      refine kr_get (C := "MonitorWays$States") (T := TX4) (N := 3) hx hb hts hin_X4 hown hK hP 38 (by decide) (E_sts _ _ _ _) rfl 2 (by decide) lk_f19 (fun _ h9 => h9) rfl dX4_keep_93 ?_
      refine lv_iload_n hx hb dX4_keep_96 rfl (lv_at hl 0 rfl) ?_
      refine lv_aload_n hx hb dX4_keep_97 rfl (lv_at hl 1 rfl) ?_
      refine kr_get (C := "MonitorWays$States") (T := TX4) (N := 3) hx hb hts hin_X4 hown hK hP 38 (by decide) (E_sts _ _ _ _) rfl 0 (by decide) lk_f23 (fun _ h9 => h9) rfl dX4_keep_98 ?_
      refine kr_topi (y := nI (sz + 1)) up2_s ?_
      refine kr_iastN hx hb hK hP hD hS 40 0 (by decide) (fun _ => E_slots _ _ _ _) rfl (j := (slN iv (up2L (up2L (up2L (up2L lv 39 ((sz * 4) + 0) (r_aWord iv 1 0 (iv (28 + 2 * 1 + 0) 2).toNatClampNeg)) 39 ((sz * 4) + 1) (r_aWord iv 1 1 (iv (28 + 2 * 1 + 1) 2).toNatClampNeg)) 39 ((sz * 4) + 2) (r_aWord iv 1 2 0)) 39 ((sz * 4) + 3) (r_aWord iv 1 3 0)) (ln 40) sz)) (prb_lt _ _ (Nat.mod_lt _ hpos)) hns dX4_keep_101 (fun H locs hP hD hS => ?_)
      refine lv_iconst (v := 1) hx hb dX4_keep_102 (by decide) ?_
      refine W_room (cells' := 2) (slots' := kq * 4 * 16) rfl (by (try dsimp only) <;> omega) ?_
      exact kr_zretX (M := M0) hx hb hr hlocks hK hP hD hS (by decide) (by unfold r_sKeep; simp only [if_pos c_7, if_pos c_8]) (by unfold kpM m_sKeep n_sKeep; dsimp only; simp only [if_pos c_7, if_pos c_8]) hag dX4_keep_103
    · refine lv_iconst (v := 0) hx hb dX4_keep_80 (by decide) ?_
      refine W_room (cells' := 2) (slots' := kq * 4 * 16) rfl (by (try dsimp only) <;> omega) ?_
      exact kr_zretX (M := M0) hx hb hr hlocks hK hP hD hS (by decide) (by unfold r_sKeep; simp only [if_pos c_7, if_neg c_8]) (by unfold kpM m_sKeep n_sKeep; dsimp only; simp only [if_pos c_7, if_neg c_8]) hag dX4_keep_81
  · refine lv_iconst (v := 1) hx hb dX4_keep_68 (by decide) ?_
    refine W_room (cells' := 2) (slots' := kq * 4 * 16) rfl (by (try dsimp only) <;> omega) ?_
    exact kr_zretX (M := M0) hx hb hr hlocks hK hP hD hS (by decide) (by unfold r_sKeep; simp only [if_neg c_7]) (by unfold kpM m_sKeep n_sKeep; dsimp only; simp only [if_neg c_7]) hag dX4_keep_69
