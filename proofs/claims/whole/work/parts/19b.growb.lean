theorem sRoom4 (iv : Nat → Nat → Int32) {k : Nat} (h : k ≤ 65536) : r_sRoom iv (nI (k * 4)) = nI (k * 3) := by
  unfold r_sRoom
  have h1 : nI (k * 4) / 4 = nI k := by rw [show (4 : Int32) = nI 4 from rfl, pk_div (by omega) (by decide) (by decide), Nat.mul_div_cancel _ (by decide)]
  rw [h1, show (3 : Int32) = nI 3 from rfl, pk_mul]
/-- grow puts the states into the new slots, one after the other -/
def gwI (iv : Nat → Nat → Int32) (lv : Nat → Nat → Int64) (n : Nat) : Nat → Nat → Nat → Int32
  | 0 => iv
  | i + 1 => up2 (gwI iv lv n i) 40 (slN (gwI iv lv n i) lv n i) (nI (i + 1))
theorem gwI_row {iv : Nat → Nat → Int32} {lv : Nat → Nat → Int64} {n a : Nat} (h : a ≠ 40) : ∀ i, gwI iv lv n i a = iv a
  | 0 => rfl
  | i + 1 => by rw [gwI, up2_c h, gwI_row h i]
theorem okSl_up {iv : Nat → Nat → Int32} {ln : Nat → Nat} {s i : Nat} (h : okSl iv ln) (hi : 4 * i + 4 ≤ ln 39) (hi2 : i < 65536) : okSl (up2 iv 40 s (nI (i + 1))) ln := by
  intro t ht hn
  unfold bS at *
  by_cases hts : t = s
  · subst hts
    rw [up2_s] at hn ⊢
    rw [nI_clamp (by omega)]
    exact ⟨rfl, hi⟩
  · rw [up2_k hts] at hn ⊢
    exact h t ht hn
theorem gwI_ok {iv : Nat → Nat → Int32} {lv : Nat → Nat → Int64} {ln : Nat → Nat} {n sz : Nat} (h0 : okSl iv ln) (hs : 4 * sz ≤ ln 39) (hs2 : sz ≤ 65536) : ∀ i, i ≤ sz → okSl (gwI iv lv n i) ln
  | 0, _ => h0
  | i + 1, h => okSl_up (gwI_ok h0 hs hs2 i (by omega)) (by omega) (by omega)
def ivG (iv : Nat → Nat → Int32) : Nat → Nat → Int32 := fun j => if j = 40 then (fun _ => 0) else iv j
def lnG1 (ln : Nat → Nat) (n0 : Nat) : Nat → Nat := fun j => if j = 40 then n0 * 4 else ln j
def lnG (ln : Nat → Nat) (n0 : Nat) : Nat → Nat := fun j => if j = 39 then (n0 * 3) * 4 else lnG1 ln n0 j
def lvG (lv : Nat → Nat → Int64) (n0 : Nat) : Nat → Nat → Int64 := fun j => if j = 39 then va_cpy (lv 39) (fun _ => 0) 0 0 (n0 * 3) else lv j
def gwM (ln : Nat → Nat) (iv : Nat → Nat → Int32) (lv : Nat → Nat → Int64) (n0 sz : Nat) : KM2 := (lnG ln n0, gwI (ivG iv) (lvG lv n0) (n0 * 4) sz, lvG lv n0)
theorem okSl_0 {iv : Nat → Nat → Int32} {ln : Nat → Nat} : okSl (ivG iv) ln := fun s _ h => absurd rfl h
set_option maxHeartbeats 4000000 in
set_option maxRecDepth 100000 in
theorem c_sGrow (l : Launch) (D : va_G) (gc : Nat → ClassId) (ad ln : Nat → Nat) (iv : Nat → Nat → Int32) (lv : Nat → Nat → Int64) (n0 e sz : Nat) (hn0 : ln 40 = n0) (he0 : n0 = 2 ^ e) (he2 : 2 ≤ e) (he10 : e ≤ 10) (hw : ln 39 = n0 * 3) (hsz : iv 38 0 = nI sz) (hs : 4 * sz ≤ n0 * 3) : kMvX l yX4_grow wX4_grow ({ frames := 2, cells := 2, slots := n0 * 16, locals := 120 }) D vwCl (kT gc) 42 (kE gc) [.ref (ad 38)] (ad, ln, iv, lv) (gwM ln iv lv n0 sz) := by
  refine kvX_start (cc := cX4_grow) (maxL := 2) (by decide) rfl (Nat.le_of_ble_eq_true rfl) ?_
  intro p9 e9 s m9 below meth c9 A ls hx hb hr hts hown hlocks hml hA hK hP hD hS hl
  obtain ⟨M0, hM0⟩ : ∃ z : KM, z = (ad, ln, iv, lv) := ⟨_, rfl⟩
  rw [← hM0]
  have hag : ∀ c, c < 39 → ad c = M0.1 c := fun c _ => by rw [hM0]
  have hl : lv_has ls 2 [(0, .ref (ad 38))] := hl
  have hown : s.vm.findClass "MonitorWays$States" = some m9.cls := hown
  have hin_X4 : ∀ w ∈ u_ws "MonitorWays$States" TX4 3, w ∈ wX4_grow := fun w h => tcons (inX4 w h)
  have lk_f19 := hts _ (tcons tw_155)
  have lk_f15 := hts _ (tcons tw_154)
  have lk_f23 := hts _ (tcons tw_153)
  have hnp : 4 ≤ n0 := by rw [he0]; exact Nat.pow_le_pow_right (n := 2) (by decide) he2
  have hn10 : n0 ≤ 1024 := by rw [he0]; exact Nat.pow_le_pow_right (n := 2) (by decide) he10
  refine lv_aload_n hx hb dX4_grow_0 rfl (lv_at hl 0 rfl) ?_
  refine lv_aload_n hx hb dX4_grow_1 rfl (lv_at hl 0 rfl) ?_
  refine kr_get (C := "MonitorWays$States") (T := TX4) (N := 3) hx hb hts hin_X4 hown hK hP 38 (by decide) (E_sts _ _ _ _) rfl 2 (by decide) lk_f19 (fun _ h9 => h9) rfl dX4_grow_2 ?_
  refine kr_alen hx hb hK hP 40 0 (by decide) (E_slots _ _ _ _) rfl rfl dX4_grow_5 ?_
  refine lv_iconst (v := 4) hx hb dX4_grow_6 (by decide) ?_
  refine lv_imul hx hb dX4_grow_7 ?_
  refine kr_topi (y := nI ((ln 40) * 4)) (pk_mul (ln 40) 4) ?_
  rw [hn0]
  refine kr_newI (N := n0 * 4) hx hb (hts _ (tcons tw_41)) hK hP hD hS hA 0 rfl (by omega) (Nat.le_of_ble_eq_true rfl) (by show 0 + n0 * 4 ≤ n0 * 16; omega) dX4_grow_8 (fun q1 H hP hD hS => ?_)
  refine kr_putA (C := "MonitorWays$States") (T := TX4) (N := 3) hx hb hts hin_X4 tyX4 ok_tyX4 ok_nX4 hown hK hP hD hS 38 (by decide) (E_sts _ _ _ _) rfl 2 (by decide) lk_f19 (fun _ h9 => h9) rfl rfl rfl rfl (Nat.le_of_ble_eq_true rfl) ((fun j => if j = 40 then q1 else ad j), lnG1 ln n0, ivG iv, lv) 40 (by decide) (by decide) rfl (fun j _ h => if_neg h) rfl rfl (kE_keep (by decide) (fun j h => if_neg h) (fun j h => by first | exact if_neg h | rfl) (fun j h => by first | exact if_neg h | rfl) (fun j h => by first | exact if_neg h | rfl)) dX4_grow_10 (fun H locs hP hD hS => ?_)
  have hag : ∀ c, c < 39 → (fun j => if j = 40 then q1 else ad j) c = M0.1 c := fun c hc => (if_neg (by omega)).trans (hag c hc)
  have hl : lv_has ls 2 [(0, .ref ((fun j => if j = 40 then q1 else ad j) 38))] := hl
  obtain ⟨ad, had⟩ : ∃ z : Nat → Nat, z = (fun j => if j = 40 then q1 else ad j) := ⟨_, rfl⟩
  rw [← had] at hP hD hl hag
  refine lv_aload_n hx hb dX4_grow_13 rfl (lv_at hl 0 rfl) ?_
  refine lv_aload_n hx hb dX4_grow_14 rfl (lv_at hl 0 rfl) ?_
  refine kr_get (C := "MonitorWays$States") (T := TX4) (N := 3) hx hb hts hin_X4 hown hK hP 38 (by decide) (E_sts _ _ _ _) rfl 1 (by decide) lk_f15 (fun _ h9 => h9) rfl dX4_grow_15 ?_
  refine lv_aload_n hx hb dX4_grow_18 rfl (lv_at hl 0 rfl) ?_
  refine kr_get (C := "MonitorWays$States") (T := TX4) (N := 3) hx hb hts hin_X4 hown hK hP 38 (by decide) (E_sts _ _ _ _) rfl 2 (by decide) lk_f19 (fun _ h9 => h9) rfl dX4_grow_19 ?_
  refine kr_alen hx hb hK hP 40 0 (by decide) (E_slots _ _ _ _) rfl rfl dX4_grow_22 ?_
  refine kr_topi (y := nI (n0 * 4)) rfl ?_
  refine kr_callSi (As := [.int (nI (n0 * 4))]) (rest := [.ref (ad 39), .ref (ad 38)]) ⟨hx, hb, hml, hown, hts⟩ (c_sRoom l D gc ad (lnG1 ln n0) (ivG iv) lv (nI (n0 * 4))) (cwS 1 hts (goodS (fun _ h => tcons h) tw_150 tw_151 tw_7 tw_152) rfl rfl rfl (by decide +kernel) ⟨Nat.le_of_ble_eq_true rfl, Nat.le_of_ble_eq_true rfl⟩) hK hP hD hS hA rfl hl.1 rfl (Nat.le_of_ble_eq_true rfl) dX4_grow_23 ⟨by (try dsimp only) <;> omega, by (try dsimp only) <;> omega⟩ (fun H locs hP hD hS => ?_)
  refine kr_topi (y := nI (n0 * 3)) (sRoom4 _ (by omega)) ?_
  refine lv_iconst (v := 4) hx hb dX4_grow_26 (by decide) ?_
  refine lv_imul hx hb dX4_grow_27 ?_
  refine kr_topi (y := nI ((n0 * 3) * 4)) (pk_mul (n0 * 3) 4) ?_
  refine kr_copyOf (M := (ad, lnG1 ln n0, ivG iv, lv)) (cI := 39) (n0 := n0 * 3) (n1 := (n0 * 3) * 4) (f := lv 39) (rest := [.ref (ad 38)]) (by omega) (by omega) ⟨hx, hb, hml, hown, hts⟩ ⟨callB_of 2 hts (goodC (fun _ h => tcons h) tw_433) rfl rfl rfl (hts _ (tcons tw_9)) (hts _ (tcons tw_431)) (by decide +kernel) ⟨Nat.le_of_ble_eq_true rfl, Nat.le_of_ble_eq_true rfl⟩, hts _ (tcons tw_432)⟩ hK hP hD hS hA (by decide) ((E_words ad (lnG1 ln n0) (ivG iv 39) (lv 39)).trans (by rw [show lnG1 ln n0 39 = n0 * 3 from hw])) hl.1 (Nat.le_of_ble_eq_true rfl) dX4_grow_28 ⟨Nat.le_of_ble_eq_true rfl, by show 0 + n0 * 4 + (n0 * 3) * 4 ≤ n0 * 16; omega⟩ (fun q2 H locs hP hD hS => ?_)
  refine kr_putA (C := "MonitorWays$States") (T := TX4) (N := 3) hx hb hts hin_X4 tyX4 ok_tyX4 ok_nX4 hown hK hP hD hS 38 (by decide) (E_sts _ _ _ _) rfl 1 (by decide) lk_f15 (fun _ h9 => h9) rfl rfl rfl rfl (Nat.le_of_ble_eq_true rfl) ((fun j => if j = 39 then q2 else ad j), lnG ln n0, ivG iv, lvG lv n0) 39 (by decide) (by decide) rfl (fun j _ h => if_neg h) rfl rfl (kE_keep (by decide) (fun j h => if_neg h) (fun j h => by first | exact if_neg h | rfl) (fun j h => by first | exact if_neg h | rfl) (fun j h => by first | exact if_neg h | rfl)) dX4_grow_31 (fun H locs hP hD hS => ?_)
  have hag : ∀ c, c < 39 → (fun j => if j = 39 then q2 else ad j) c = M0.1 c := fun c hc => (if_neg (by omega)).trans (hag c hc)
  have hl : lv_has ls 2 [(0, .ref ((fun j => if j = 39 then q2 else ad j) 38))] := hl
  obtain ⟨ad, had2⟩ : ∃ z : Nat → Nat, z = (fun j => if j = 39 then q2 else ad j) := ⟨_, rfl⟩
  rw [← had2] at hP hD hl hag
  have e40 : lnG ln n0 40 = n0 * 4 := rfl
  have e39 : lnG ln n0 39 = (n0 * 3) * 4 := rfl
  have hns : lnG ln n0 40 < 2 ^ 31 := by rw [e40]; omega
  have hnw : lnG ln n0 39 < 2 ^ 31 := by rw [e39]; omega
  have hpos : 0 < lnG ln n0 40 := by rw [e40]; omega
  have hln2 : lnG ln n0 40 = 2 ^ (e + 2) := by rw [e40, he0, Nat.pow_add]
  refine lv_iconst (v := 0) hx hb dX4_grow_34 (by decide) ?_
  refine lv_istore_n (lv' := [(1, .int 0), (0, .ref (ad 38))]) hx hb dX4_grow_35 rfl hl (by decide) rfl (fun ls hl => ?_)
  refine kr_loop (σ := Nat) (fun z9 => match z9 with | i => sz - i) (fun z9 H locs ls => match z9 with | i => (i ≤ sz) ∧ va_P D vwCl (mW 42 (kE gc) (ad, (lnG ln n0), (gwI (ivG iv) (lvG lv n0) (lnG ln n0 40) i), (lvG lv n0))) H ∧ va_D A (mW 42 (kE gc) (ad, (lnG ln n0), (gwI (ivG iv) (lvG lv n0) (lnG ln n0 40) i), (lvG lv n0))) ∧ va_S A s.heap H locs ∧ lv_has ls 2 [(0, .ref (ad 38)), (1, .int (nI i))]) 36 (0) ⟨Nat.zero_le _, hP, hD, hS, lv_sub hl [1, 0] rfl⟩ ?_
  intro z9 H locs ls hI ih
  obtain ⟨i, hx9⟩ : ∃ z, z = z9 := ⟨_, rfl⟩
  subst hx9
  obtain ⟨hi, hP, hD, hS, hl⟩ := hI
  refine lv_iload_n hx hb dX4_grow_36 rfl (lv_at hl 1 rfl) ?_
  refine lv_aload_n hx hb dX4_grow_37 rfl (lv_at hl 0 rfl) ?_
  refine kr_get (C := "MonitorWays$States") (T := TX4) (N := 3) hx hb hts hin_X4 hown hK hP 38 (by decide) (E_sts _ _ _ _) rfl 0 (by decide) lk_f23 (fun _ h9 => h9) rfl dX4_grow_38 ?_
  refine kr_topi (y := nI sz) ((congrFun (gwI_row (by decide) i) 0).trans hsz) ?_
  refine lv_icmp_ge (tgt := 63) hx hb dX4_grow_41 (by decide) (fun c_1 => ?_) (fun c_1 => ?_)
  · have hie : sz = i := by have := (nI_leI (by omega) (by omega)).mp c_1; omega
    subst hie
    refine W_room (cells' := 2) (slots' := n0 * 16) rfl (by (try dsimp only) <;> omega) ?_
    exact kr_vretX (M := M0) hx hb hr hlocks hK hP hD hS rfl hag dX4_grow_63
  · have hlt : i < sz := lt_of_nle (by omega) (by omega) c_1
    have hok : okSl (gwI (ivG iv) (lvG lv n0) (lnG ln n0 40) i) (lnG ln n0) := gwI_ok (sz := sz) okSl_0 (by rw [e39]; omega) (by omega) i hi
    refine lv_aload_n hx hb dX4_grow_44 rfl (lv_at hl 0 rfl) ?_
    refine kr_get (C := "MonitorWays$States") (T := TX4) (N := 3) hx hb hts hin_X4 hown hK hP 38 (by decide) (E_sts _ _ _ _) rfl 2 (by decide) lk_f19 (fun _ h9 => h9) rfl dX4_grow_45 ?_
    refine lv_aload_n hx hb dX4_grow_48 rfl (lv_at hl 0 rfl) ?_
    refine lv_iload_n hx hb dX4_grow_49 rfl (lv_at hl 1 rfl) ?_
    refine kr_callVi (As := [.int (nI i)]) (rest := [.ref (ad 40)]) ⟨hx, hb, hml, hown, hts⟩ (c_sSlot l D gc ad (lnG ln n0) (gwI (ivG iv) (lvG lv n0) (lnG ln n0 40) i) (lvG lv n0) i (by rw [e39]; omega) (e + 2) hln2 (by omega) hnw hok) (cwV 1 hts (goodV (fun _ h => tcons h) tw_447 tw_449 ts_17 tw_7 tw_450) rfl rfl rfl (by decide +kernel) ⟨Nat.le_of_ble_eq_true rfl, Nat.le_of_ble_eq_true rfl⟩) (kr_recv hK hP 38 (by decide) (E_sts _ _ _ _) rfl) hK hP hD hS hA rfl hl.1 rfl (Nat.le_of_ble_eq_true rfl) dX4_grow_50 ⟨by (try dsimp only) <;> omega, by (try dsimp only) <;> omega⟩ (fun H locs hP hD hS => ?_)
    refine kr_topi (y := nI (slN (gwI (ivG iv) (lvG lv n0) (lnG ln n0 40) i) (lvG lv n0) (lnG ln n0 40) i)) rfl ?_
    refine lv_iload_n hx hb dX4_grow_53 rfl (lv_at hl 1 rfl) ?_
    refine lv_iconst (v := 1) hx hb dX4_grow_54 (by decide) ?_
    refine lv_iadd hx hb dX4_grow_55 ?_
    refine kr_topi (y := nI (i + 1)) (nI_add i 1) ?_
    refine kr_iastN hx hb hK hP hD hS 40 0 (by decide) (fun _ => E_slots _ _ _ _) rfl (j := (slN (gwI (ivG iv) (lvG lv n0) (lnG ln n0 40) i) (lvG lv n0) (lnG ln n0 40) i)) (prb_lt _ _ (Nat.mod_lt _ hpos)) hns dX4_grow_56 (fun H locs hP hD hS => ?_)
    refine lv_iinc (v := nI (i + 1)) (lv' := [(1, .int (nI (i + 1))), (0, .ref (ad 38))]) hx hb dX4_grow_57 hl (k := 1) rfl (nI_1 i) (by decide) rfl (fun ls hl => ?_)
    refine lv_goto (tgt := 36) hx hb dX4_grow_60 (by decide) ?_
    exact ih (i + 1) H locs ls ⟨by omega, hP, hD, hS, lv_sub hl [1, 0] rfl⟩ (by show sz - (i + 1) < sz - i; omega)
