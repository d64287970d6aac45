/-- leaveSet closes up the row: n places from i on -/
def shL (b : Nat) : Nat → Nat → (Nat → Nat → Int32) → Nat → Nat → Int32
  | 0, _, iv => iv
  | n + 1, i, iv => shL b n (i + 1) (up2 iv 15 (b + i) (iv 15 (b + i + 1)))
theorem shL_s {b e i : Nat} {iv : Nat → Nat → Int32} (h : i < e) : shL b (e - (i + 1)) (i + 1) (up2 iv 15 (b + i) (iv 15 (b + i + 1))) = shL b (e - i) i iv := by
  rw [show e - i = (e - (i + 1)) + 1 by omega]
  rfl
theorem shL_row {b a : Nat} (h : a ≠ 15) : ∀ (n i : Nat) (iv : Nat → Nat → Int32), shL b n i iv a = iv a
  | 0, _, _ => rfl
  | n + 1, i, iv => by rw [shL, shL_row h n (i + 1) _, up2_c h]
def m_oLeave (iv : Nat → Nat → Int32) (t mm sz k0 : Nat) : Nat → Nat → Int32 := up2 (shL (4 * mm) (sz - 1 - k0) k0 (up2 iv 14 mm (nI (sz - 1)))) 5 t 2
set_option maxHeartbeats 4000000 in
set_option maxRecDepth 100000 in
theorem c_oLeave (l : Launch) (D : va_G) (gc : Nat → ClassId) (ad ln : Nat → Nat) (iv : Nat → Nat → Int32) (lv : Nat → Nat → Int64) (t : Nat) (ht : t < 4) (p : Nat) (hp : iv 4 t = nI p) (hp1 : 1 ≤ p) (hp6 : p ≤ 6) (mm : Nat) (hmm : mm < 2) (hw : iv 2 (6 * t + p - 1) = nI mm) (sz : Nat) (hsz : iv 14 mm = nI sz) (hs4 : sz ≤ 4) (k0 : Nat) (hk0 : k0 < sz) (hfind : iv 15 (4 * mm + k0) = nI t) (hbef : ∀ k, k < k0 → ¬ iv 15 (4 * mm + k) = nI t) : kMv l yX7_leaveSet wX7_leaveSet ({ frames := 1, cells := 0, slots := 0, locals := 21 }) D vwCl (kT gc) 20 (rE gc) [.ref (ad 0), .int (nI t)] (ad, ln, iv, lv) (ad, ln, m_oLeave iv t mm sz k0, lv) := by
  refine kv_start (cc := cX7_leaveSet) (maxL := 5) (by decide) rfl (Nat.le_of_ble_eq_true rfl) ?_
  intro p9 e9 s m9 below meth c9 A ls hx hb hr hts hown hlocks hml hA hK hP hD hS hl
  have hl : lv_has ls 5 [(0, .ref (ad 0)), (1, .int (nI t))] := hl
  have hown : s.vm.findClass "MonitorWaysModel" = some m9.cls := hown
  have hin_X7 : ∀ w ∈ u_ws "MonitorWaysModel" TX7 27, w ∈ wX7_leaveSet := fun w h => tcons (inX7 w h)
  have lk_f54 := hts _ (tcons tw_589)
  have lk_f51 := hts _ (tcons tw_588)
  have lk_f22 := hts _ (tcons tw_579)
  refine lv_aload_n hx hb dX7_leaveSet_0 rfl (lv_at hl 0 rfl) ?_
  refine lv_iload_n hx hb dX7_leaveSet_1 rfl (lv_at hl 1 rfl) ?_
  refine kr_callVi (As := [.int (nI t)]) (rest := []) ⟨hx, hb, hml, hown, hts⟩ (c_oWaited l D gc ad ln iv lv t (by omega) p hp hp1 hp6) (cwV 1 hts (goodV (fun _ h => tcons h) tw_699 tw_701 ts_35 tw_8 tw_702) rfl rfl rfl (by decide +kernel) ⟨Nat.le_of_ble_eq_true rfl, Nat.le_of_ble_eq_true rfl⟩) (kr_recv hK hP 0 (by decide) (R_0 _ _ _ _) rfl) hK hP hD hS hA rfl hl.1 rfl (Nat.le_of_ble_eq_true rfl) dX7_leaveSet_2 ⟨Nat.le_of_ble_eq_true rfl, Nat.le_of_ble_eq_true rfl⟩ (fun H locs hP hD hS => ?_)
  refine kr_topi (y := nI mm) hw ?_
  refine lv_istore_n (lv' := [(2, .int (nI mm)), (0, .ref (ad 0)), (1, .int (nI t))]) hx hb dX7_leaveSet_5 rfl hl (by decide) rfl (fun ls hl => ?_)
  refine lv_iconst (v := 0) hx hb dX7_leaveSet_6 (by decide) ?_
  refine lv_istore_n (lv' := [(3, .int 0), (2, .int (nI mm)), (0, .ref (ad 0)), (1, .int (nI t))]) hx hb dX7_leaveSet_7 rfl hl (by decide) rfl (fun ls hl => ?_)
  refine kr_loop (σ := Nat) (fun z9 => match z9 with | k => k0 - k) (fun z9 H locs ls => match z9 with | k => (k ≤ k0) ∧ va_P D vwCl (mW 20 (rE gc) (ad, ln, iv, lv)) H ∧ va_D A (mW 20 (rE gc) (ad, ln, iv, lv)) ∧ va_S A s.heap H locs ∧ lv_has ls 5 [(0, .ref (ad 0)), (1, .int (nI t)), (2, .int (nI mm)), (3, .int (nI k))]) 8 (0) ⟨Nat.zero_le _, hP, hD, hS, lv_sub hl [2, 3, 1, 0] rfl⟩ ?_
  intro z9 H locs ls hI ih
  obtain ⟨k, hx9⟩ : ∃ z, z = z9 := ⟨_, rfl⟩
  subst hx9
  obtain ⟨hk, hP, hD, hS, hl⟩ := hI
  refine lv_aload_n hx hb dX7_leaveSet_8 rfl (lv_at hl 0 rfl) ?_
  refine kr_get (C := "MonitorWaysModel") (T := TX7) (N := 27) hx hb hts hin_X7 hown hK hP 0 (by decide) (R_0 _ _ _ _) rfl 15 (by decide) lk_f54 (fun _ h9 => h9) rfl dX7_leaveSet_9 ?_
  refine lv_iconst (v := 4) hx hb dX7_leaveSet_12 (by decide) ?_
  refine lv_iload_n hx hb dX7_leaveSet_13 rfl (lv_at hl 2 rfl) ?_
  refine lv_imul hx hb dX7_leaveSet_14 ?_
  refine kr_topi (y := nI (4 * mm)) (pk_mul 4 mm) ?_
  refine lv_iload_n hx hb dX7_leaveSet_15 rfl (lv_at hl 3 rfl) ?_
  refine lv_iadd hx hb dX7_leaveSet_16 ?_
  refine kr_topi (y := nI ((4 * mm) + k)) (nI_add (4 * mm) k) ?_
  refine kr_ialdN hx hb hK hP 15 0 (by decide) (R_15 _ _ _ _) rfl (j := ((4 * mm) + k)) (by omega) (by decide) dX7_leaveSet_17 ?_
  refine lv_iload_n hx hb dX7_leaveSet_18 rfl (lv_at hl 1 rfl) ?_
  refine lv_icmp_eq (tgt := 28) hx hb dX7_leaveSet_19 (by decide) (fun c_1 => ?_) (fun c_1 => ?_)
  · have hkk : k0 = k := by rcases Nat.lt_or_ge k k0 with h | h; exact absurd c_1 (hbef k h); omega
    subst hkk
    refine lv_aload_n hx hb dX7_leaveSet_28 rfl (lv_at hl 0 rfl) ?_
    refine kr_get (C := "MonitorWaysModel") (T := TX7) (N := 27) hx hb hts hin_X7 hown hK hP 0 (by decide) (R_0 _ _ _ _) rfl 14 (by decide) lk_f51 (fun _ h9 => h9) rfl dX7_leaveSet_29 ?_
    refine lv_iload_n hx hb dX7_leaveSet_32 rfl (lv_at hl 2 rfl) ?_
    refine lv_dup2_11 hx hb dX7_leaveSet_33 rfl rfl ?_
    refine kr_ialdN hx hb hK hP 14 0 (by decide) (R_14 _ _ _ _) rfl (j := mm) (by omega) (by decide) dX7_leaveSet_34 ?_
    refine kr_topi (y := nI sz) hsz ?_
    refine lv_iconst (v := 1) hx hb dX7_leaveSet_35 (by decide) ?_
    refine lv_isub hx hb dX7_leaveSet_36 ?_
    refine kr_topi (y := nI (sz - 1)) (pk_sub (a := sz) (b := 1) (by omega)) ?_
    refine kr_iastN hx hb hK hP hD hS 14 0 (by decide) (fun _ => R_14 _ _ _ _) rfl (j := mm) (by omega) (by decide) dX7_leaveSet_37 (fun H locs hP hD hS => ?_)
    refine lv_iload_n hx hb dX7_leaveSet_38 rfl (lv_at hl 3 rfl) ?_
    refine lv_istore (lv' := [(4, .int (nI k0)), (0, .ref (ad 0)), (1, .int (nI t)), (2, .int (nI mm)), (3, .int (nI k0))]) hx hb dX7_leaveSet_39 hl (by decide) rfl (fun ls hl => ?_)
    refine kr_loop (σ := Nat × ((Nat → Nat → Int32))) (fun z9 => match z9 with | (i, ivk) => sz - 1 - i) (fun z9 H locs ls => match z9 with | (i, ivk) => (k0 ≤ i ∧ i ≤ sz - 1) ∧ (ivk 14 mm = nI (sz - 1)) ∧ (shL (4 * mm) (sz - 1 - i) i ivk = shL (4 * mm) (sz - 1 - k0) k0 (up2 iv 14 mm (nI (sz - 1)))) ∧ va_P D vwCl (mW 20 (rE gc) (ad, ln, ivk, lv)) H ∧ va_D A (mW 20 (rE gc) (ad, ln, ivk, lv)) ∧ va_S A s.heap H locs ∧ lv_has ls 5 [(0, .ref (ad 0)), (1, .int (nI t)), (2, .int (nI mm)), (4, .int (nI i))]) 41 (k0, (up2 iv 14 mm (nI (sz - 1)))) ⟨⟨Nat.le_refl _, by omega⟩, up2_s, rfl, hP, hD, hS, lv_sub hl [1, 2, 3, 0] rfl⟩ ?_
    intro z9 H locs ls hI ih
    obtain ⟨i, ivk⟩ := z9
    obtain ⟨hi, hs, heq, hP, hD, hS, hl⟩ := hI
    refine lv_iload hx hb dX7_leaveSet_41 (lv_at hl 3 rfl) ?_
    refine lv_aload_n hx hb dX7_leaveSet_43 rfl (lv_at hl 0 rfl) ?_
    refine kr_get (C := "MonitorWaysModel") (T := TX7) (N := 27) hx hb hts hin_X7 hown hK hP 0 (by decide) (R_0 _ _ _ _) rfl 14 (by decide) lk_f51 (fun _ h9 => h9) rfl dX7_leaveSet_44 ?_
    refine lv_iload_n hx hb dX7_leaveSet_47 rfl (lv_at hl 2 rfl) ?_
    refine kr_ialdN hx hb hK hP 14 0 (by decide) (R_14 _ _ _ _) rfl (j := mm) (by omega) (by decide) dX7_leaveSet_48 ?_
    refine kr_topi (y := nI (sz - 1)) hs ?_
    refine lv_icmp_ge (tgt := 82) hx hb dX7_leaveSet_49 (by decide) (fun c_2 => ?_) (fun c_2 => ?_)
    · have hie : sz - 1 = i := by have := (nI_leI (by omega) (by omega)).mp c_2; omega
      subst hie
      rw [Nat.sub_self, shL] at heq
      refine lv_aload_n hx hb dX7_leaveSet_82 rfl (lv_at hl 0 rfl) ?_
      refine kr_get (C := "MonitorWaysModel") (T := TX7) (N := 27) hx hb hts hin_X7 hown hK hP 0 (by decide) (R_0 _ _ _ _) rfl 5 (by decide) lk_f22 (fun _ h9 => h9) rfl dX7_leaveSet_83 ?_
      refine lv_iload_n hx hb dX7_leaveSet_86 rfl (lv_at hl 1 rfl) ?_
      refine lv_iconst (v := 2) hx hb dX7_leaveSet_87 (by decide) ?_
      refine kr_iastN hx hb hK hP hD hS 5 0 (by decide) (fun _ => R_5 _ _ _ _) rfl (j := t) (by omega) (by decide) dX7_leaveSet_88 (fun H locs hP hD hS => ?_)
      exact kr_vret hx hb hr hlocks hK hP hD hS (by unfold m_oLeave; rw [← heq]) dX7_leaveSet_89
    · have hlt : i < sz - 1 := lt_of_nle (by omega) (by omega) c_2
      refine lv_aload_n hx hb dX7_leaveSet_52 rfl (lv_at hl 0 rfl) ?_
      refine kr_get (C := "MonitorWaysModel") (T := TX7) (N := 27) hx hb hts hin_X7 hown hK hP 0 (by decide) (R_0 _ _ _ _) rfl 15 (by decide) lk_f54 (fun _ h9 => h9) rfl dX7_leaveSet_53 ?_
      refine lv_iconst (v := 4) hx hb dX7_leaveSet_56 (by decide) ?_
      refine lv_iload_n hx hb dX7_leaveSet_57 rfl (lv_at hl 2 rfl) ?_
      refine lv_imul hx hb dX7_leaveSet_58 ?_
      refine kr_topi (y := nI (4 * mm)) (pk_mul 4 mm) ?_
      refine lv_iload hx hb dX7_leaveSet_59 (lv_at hl 3 rfl) ?_
      refine lv_iadd hx hb dX7_leaveSet_61 ?_
      refine kr_topi (y := nI ((4 * mm) + i)) (nI_add (4 * mm) i) ?_
      refine lv_aload_n hx hb dX7_leaveSet_62 rfl (lv_at hl 0 rfl) ?_
      refine kr_get (C := "MonitorWaysModel") (T := TX7) (N := 27) hx hb hts hin_X7 hown hK hP 0 (by decide) (R_0 _ _ _ _) rfl 15 (by decide) lk_f54 (fun _ h9 => h9) rfl dX7_leaveSet_63 ?_
      refine lv_iconst (v := 4) hx hb dX7_leaveSet_66 (by decide) ?_
      refine lv_iload_n hx hb dX7_leaveSet_67 rfl (lv_at hl 2 rfl) ?_
      refine lv_imul hx hb dX7_leaveSet_68 ?_
      refine kr_topi (y := nI (4 * mm)) (pk_mul 4 mm) ?_
      refine lv_iload hx hb dX7_leaveSet_69 (lv_at hl 3 rfl) ?_
      refine lv_iadd hx hb dX7_leaveSet_71 ?_
      refine kr_topi (y := nI ((4 * mm) + i)) (nI_add (4 * mm) i) ?_
      refine lv_iconst (v := 1) hx hb dX7_leaveSet_72 (by decide) ?_
      refine lv_iadd hx hb dX7_leaveSet_73 ?_
      refine kr_topi (y := nI (((4 * mm) + i) + 1)) (nI_add ((4 * mm) + i) 1) ?_
      refine kr_ialdN hx hb hK hP 15 0 (by decide) (R_15 _ _ _ _) rfl (j := (((4 * mm) + i) + 1)) (by omega) (by decide) dX7_leaveSet_74 ?_
      refine kr_iastN hx hb hK hP hD hS 15 0 (by decide) (fun _ => R_15 _ _ _ _) rfl (j := ((4 * mm) + i)) (by omega) (by decide) dX7_leaveSet_75 (fun H locs hP hD hS => ?_)
      refine lv_iinc (v := nI (i + 1)) (lv' := [(4, .int (nI (i + 1))), (0, .ref (ad 0)), (1, .int (nI t)), (2, .int (nI mm))]) hx hb dX7_leaveSet_76 hl (k := 3) rfl (nI_1 i) (by decide) rfl (fun ls hl => ?_)
      refine lv_goto (tgt := 41) hx hb dX7_leaveSet_79 (by decide) ?_
      exact ih (i + 1, (up2 ivk 15 ((4 * mm) + i) (ivk 15 (((4 * mm) + i) + 1)))) H locs ls ⟨⟨by omega, by omega⟩, (up2_ne (by decide)).trans hs, (shL_s (by omega)).trans heq, hP, hD, hS, lv_sub hl [1, 2, 3, 0] rfl⟩ (by show sz - 1 - (i + 1) < sz - 1 - i; omega)
  · have hlt : k < k0 := by rcases Nat.lt_or_ge k k0 with h | h; exact h; exact absurd (by rw [show k = k0 by omega]; exact hfind) c_1
    refine lv_iinc (v := nI (k + 1)) (lv' := [(3, .int (nI (k + 1))), (0, .ref (ad 0)), (1, .int (nI t)), (2, .int (nI mm))]) hx hb dX7_leaveSet_22 hl (k := 3) rfl (nI_1 k) (by decide) rfl (fun ls hl => ?_)
    refine lv_goto (tgt := 8) hx hb dX7_leaveSet_25 (by decide) ?_
    exact ih (k + 1) H locs ls ⟨by omega, hP, hD, hS, lv_sub hl [1, 2, 3, 0] rfl⟩ (by show k0 - (k + 1) < k0 - k; omega)
def n_oNotif (iv : Nat → Nat → Int32) (lv : Nat → Nat → Int64) (t mm sz k0 : Nat) : Nat → Nat → Int64 := (n_oPut (m_oLeave iv t mm sz k0) lv t 2)
def m_oNotif (iv : Nat → Nat → Int32) (t mm sz k0 : Nat) : Nat → Nat → Int32 := (m_oPut (m_oLeave iv t mm sz k0) t 2)
set_option maxHeartbeats 4000000 in
set_option maxRecDepth 100000 in
theorem c_oNotif (l : Launch) (D : va_G) (gc : Nat → ClassId) (ad ln : Nat → Nat) (iv : Nat → Nat → Int32) (lv : Nat → Nat → Int64) (t : Nat) (ht : t < 4) (p : Nat) (hp : iv 4 t = nI p) (hp1 : 1 ≤ p) (hp6 : p ≤ 6) (mm : Nat) (hmm : mm < 2) (hw : iv 2 (6 * t + p - 1) = nI mm) (sz : Nat) (hsz : iv 14 mm = nI sz) (hs4 : sz ≤ 4) (k0 : Nat) (hk0 : k0 < sz) (hfind : iv 15 (4 * mm + k0) = nI t) (hbef : ∀ k, k < k0 → ¬ iv 15 (4 * mm + k) = nI t) : kMv l yX7_notified wX7_notified ({ frames := 2, cells := 0, slots := 0, locals := 45 }) D vwCl (kT gc) 20 (rE gc) [.ref (ad 0), .int (nI t)] (ad, ln, iv, lv) (ad, ln, m_oNotif iv t mm sz k0, n_oNotif iv lv t mm sz k0) := by
  refine kv_start (cc := cX7_notified) (maxL := 2) (by decide) rfl (Nat.le_of_ble_eq_true rfl) ?_
  intro p9 e9 s m9 below meth c9 A ls hx hb hr hts hown hlocks hml hA hK hP hD hS hl
  have hl : lv_has ls 2 [(0, .ref (ad 0)), (1, .int (nI t))] := hl
  have hown : s.vm.findClass "MonitorWaysModel" = some m9.cls := hown
  refine lv_aload_n hx hb dX7_notified_0 rfl (lv_at hl 0 rfl) ?_
  refine lv_iload_n hx hb dX7_notified_1 rfl (lv_at hl 1 rfl) ?_
  refine kr_callVv (As := [.int (nI t)]) (rest := []) ⟨hx, hb, hml, hown, hts⟩ (c_oLeave l D gc ad ln iv lv t (by omega) p hp hp1 hp6 mm hmm hw sz hsz hs4 k0 hk0 hfind hbef) (cwV 1 hts (goodV (fun _ h => tcons h) tw_728 tw_730 ts_42 tw_8 tw_731) rfl rfl rfl (by decide +kernel) ⟨Nat.le_of_ble_eq_true rfl, Nat.le_of_ble_eq_true rfl⟩) (kr_recv hK hP 0 (by decide) (R_0 _ _ _ _) rfl) hK hP hD hS hA rfl hl.1 rfl (Nat.le_of_ble_eq_true rfl) dX7_notified_2 ⟨Nat.le_of_ble_eq_true rfl, Nat.le_of_ble_eq_true rfl⟩ (fun H locs hP hD hS => ?_)
  refine lv_aload_n hx hb dX7_notified_5 rfl (lv_at hl 0 rfl) ?_
  refine lv_iload_n hx hb dX7_notified_6 rfl (lv_at hl 1 rfl) ?_
  refine lv_iconst (v := 2) hx hb dX7_notified_7 (by decide) ?_
  refine kr_callVv (As := [.int (nI t), .int 2]) (rest := []) ⟨hx, hb, hml, hown, hts⟩ (c_oPut l D gc ad ln (m_oLeave iv t mm sz k0) lv t (by omega) 2) (cwV 2 hts (goodV (fun _ h => tcons h) tw_715 tw_717 ts_39 tw_8 tw_718) rfl rfl rfl (by decide +kernel) ⟨Nat.le_of_ble_eq_true rfl, Nat.le_of_ble_eq_true rfl⟩) (kr_recv hK hP 0 (by decide) (R_0 _ _ _ _) rfl) hK hP hD hS hA rfl hl.1 rfl (Nat.le_of_ble_eq_true rfl) dX7_notified_8 ⟨Nat.le_of_ble_eq_true rfl, Nat.le_of_ble_eq_true rfl⟩ (fun H locs hP hD hS => ?_)
  exact kr_vret hx hb hr hlocks hK hP hD hS (mem4 rfl rfl) dX7_notified_11
/-- the set of monitor mm: k threads, each of which waits there -/
def okQ (iv : Nat → Nat → Int32) (mm k : Nat) : Prop := iv 14 mm = nI k ∧ ∀ j, j < k → ∃ v p : Nat, v < 4 ∧ iv 15 (4 * mm + j) = nI v ∧ iv 4 v = nI p ∧ 1 ≤ p ∧ p ≤ 6 ∧ iv 2 (6 * v + p - 1) = nI mm
def nAllM (mm : Nat) : Nat → (Nat → Nat → Int32) → Nat → Nat → Int32
  | 0, iv => iv
  | k + 1, iv => nAllM mm k (m_oNotif iv (iv 15 (4 * mm)).toNatClampNeg mm (k + 1) 0)
def nAllN (mm : Nat) : Nat → (Nat → Nat → Int32) → (Nat → Nat → Int64) → Nat → Nat → Int64
  | 0, _, lv => lv
  | k + 1, iv, lv => nAllN mm k (m_oNotif iv (iv 15 (4 * mm)).toNatClampNeg mm (k + 1) 0) (n_oNotif iv lv (iv 15 (4 * mm)).toNatClampNeg mm (k + 1) 0)
theorem nAllM_s {mm k v : Nat} {iv : Nat → Nat → Int32} (h : 0 < k) (hv : iv 15 (4 * mm) = nI v) (hv4 : v < 4) : nAllM mm (k - 1) (m_oNotif iv v mm k 0) = nAllM mm k iv := by
  obtain ⟨j, rfl⟩ : ∃ j, k = j + 1 := ⟨k - 1, by omega⟩
  rw [nAllM, hv, nI_clamp (by omega)]
  rfl
theorem nAllN_s {mm k v : Nat} {iv : Nat → Nat → Int32} {lv : Nat → Nat → Int64} (h : 0 < k) (hv : iv 15 (4 * mm) = nI v) (hv4 : v < 4) : nAllN mm (k - 1) (m_oNotif iv v mm k 0) (n_oNotif iv lv v mm k 0) = nAllN mm k iv lv := by
  obtain ⟨j, rfl⟩ : ∃ j, k = j + 1 := ⟨k - 1, by omega⟩
  rw [nAllN, hv, nI_clamp (by omega)]
  rfl
/-- after shL from 0 on: everything has moved down by one -/
theorem shL_get {b : Nat} : ∀ (n i : Nat) (iv : Nat → Nat → Int32) (j : Nat), (j < i → shL b n i iv 15 (b + j) = iv 15 (b + j)) ∧ (i ≤ j → j < i + n → shL b n i iv 15 (b + j) = iv 15 (b + (j + 1))) ∧ (i + n ≤ j → shL b n i iv 15 (b + j) = iv 15 (b + j))
  | 0, i, iv, j => ⟨fun _ => rfl, fun h1 h2 => absurd h2 (by omega), fun _ => rfl⟩
  | n + 1, i, iv, j => by
    obtain ⟨h1, h2, h3⟩ := shL_get n (i + 1) (up2 iv 15 (b + i) (iv 15 (b + i + 1))) j
    refine ⟨fun h => ?_, fun h h' => ?_, fun h => ?_⟩
    · rw [shL, h1 (by omega), up2_k (by omega)]
    · by_cases hj : j = i
      · subst hj
        rw [shL, h1 (by omega), up2_s]
        rfl
      · rw [shL, h2 (by omega) (by omega), up2_k (by omega)]
    · rw [shL, h3 (by omega), up2_k (by omega)]
theorem okQ_notif {iv : Nat → Nat → Int32} {mm k v : Nat} (hk : 0 < k) (h : okQ iv mm k) : okQ (m_oNotif iv v mm k 0) mm (k - 1) := by
  have e4 : ∀ a, a ≠ 5 → a ≠ 7 → a ≠ 14 → a ≠ 15 → m_oNotif iv v mm k 0 a = iv a := by
    intro a h5 h7 h14 h15
    unfold m_oNotif m_oPut m_oLeave
    rw [up2_c h7, up2_c h5, shL_row h15, up2_c h14]
  have e15 : m_oNotif iv v mm k 0 15 = shL (4 * mm) (k - 1 - 0) 0 (up2 iv 14 mm (nI (k - 1))) 15 := by
    unfold m_oNotif m_oPut m_oLeave
    rw [up2_c (by decide), up2_c (by decide)]
  refine ⟨?_, fun j hj => ?_⟩
  · unfold m_oNotif m_oPut m_oLeave
    rw [up2_ne (by decide), up2_ne (by decide), shL_row (by decide), up2_s]
  · obtain ⟨w, p, a1, a2, a3, a4, a5, a6⟩ := h.2 (j + 1) (by omega)
    refine ⟨w, p, a1, ?_, ?_, a4, a5, ?_⟩
    · rw [e15, (shL_get (k - 1 - 0) 0 _ j).2.1 (Nat.zero_le _) (by omega), up2_c (by decide), a2]
    · rw [e4 4 (by decide) (by decide) (by decide) (by decide), a3]
    · rw [e4 2 (by decide) (by decide) (by decide) (by decide), a6]
/-- what an action on monitor mm rests on -/
def okMon (iv : Nat → Nat → Int32) (t mm : Nat) (x way : Int32) (sz v1 v2 : Nat) : Prop := sz ≤ 4 ∧ okQ iv mm sz ∧ (0 < sz → v1 < 4 ∧ iv 15 (4 * mm) = nI v1) ∧ (0 < sz → v2 < 4 ∧ iv 15 (4 * mm + (sz - 1)) = nI v2) ∧ (∀ k, k < sz - 1 → ¬ iv 15 (4 * mm + k) = nI v2) ∧ (x = 4 → 0 < way → iv 12 mm = nI t → 0 < sz) ∧ (x < 4 → iv 12 mm = nI t → sz < 4)
def n_oMon (iv : Nat → Nat → Int32) (lv : Nat → Nat → Int64) (t mm : Nat) (x way : Int32) (sz va vb : Nat) : Nat → Nat → Int64 := if x = 0 then lv else if iv 12 mm = nI t then if x = 1 then if (up2 iv 13 mm ((iv 13 mm) - 1)) 13 mm = 0 then lv else lv else if 4 ≤ x then if x = 4 then if way ≤ 0 then lv else if way = 1 then (n_oNotif iv lv va mm sz 0) else (n_oNotif iv lv vb mm sz (sz - 1)) else (nAllN mm sz iv lv) else (n_oWait iv lv t mm sz) else (n_oPut iv lv t 0)
def m_oMon (iv : Nat → Nat → Int32) (t mm : Nat) (x way : Int32) (sz va vb : Nat) : Nat → Nat → Int32 := if x = 0 then (up2 (up2 iv 12 mm (nI t)) 13 mm (((up2 iv 12 mm (nI t)) 13 mm) + 1)) else if iv 12 mm = nI t then if x = 1 then if (up2 iv 13 mm ((iv 13 mm) - 1)) 13 mm = 0 then (up2 (up2 iv 13 mm ((iv 13 mm) - 1)) 12 mm (-1)) else (up2 iv 13 mm ((iv 13 mm) - 1)) else if 4 ≤ x then if x = 4 then if way ≤ 0 then iv else if way = 1 then (m_oNotif iv va mm sz 0) else (m_oNotif iv vb mm sz (sz - 1)) else (nAllM mm sz iv) else (m_oWait iv t mm sz) else (m_oPut iv t 0)
set_option maxHeartbeats 4000000 in
set_option maxRecDepth 100000 in
theorem c_oMon (l : Launch) (D : va_G) (gc : Nat → ClassId) (ad ln : Nat → Nat) (iv : Nat → Nat → Int32) (lv : Nat → Nat → Int64) (t mm : Nat) (ht : t < 4) (hmm : mm < 2) (x way : Int32) (sz v1 v2 : Nat) (hM : okMon iv t mm x way sz v1 v2) : kMv l yX7_monitorAction wX7_monitorAction ({ frames := 3, cells := 0, slots := 0, locals := 66 }) D vwCl (kT gc) 20 (rE gc) [.ref (ad 0), .int (nI t), .int x, .int (nI mm), .int way] (ad, ln, iv, lv) (ad, ln, m_oMon iv t mm x way sz v1 v2, n_oMon iv lv t mm x way sz v1 v2) := by
  refine kv_start (cc := cX7_monitorAction) (maxL := 5) (by decide) rfl (Nat.le_of_ble_eq_true rfl) ?_
  intro p9 e9 s m9 below meth c9 A ls hx hb hr hts hown hlocks hml hA hK hP hD hS hl
  have hl : lv_has ls 5 [(0, .ref (ad 0)), (1, .int (nI t)), (2, .int x), (3, .int (nI mm)), (4, .int way)] := hl
  have hown : s.vm.findClass "MonitorWaysModel" = some m9.cls := hown
  have hin_X7 : ∀ w ∈ u_ws "MonitorWaysModel" TX7 27, w ∈ wX7_monitorAction := fun w h => tcons (inX7 w h)
  have lk_f45 := hts _ (tcons tw_586)
  have lk_f51 := hts _ (tcons tw_588)
  have lk_f54 := hts _ (tcons tw_589)
  have lk_f48 := hts _ (tcons tw_587)
  obtain ⟨hs4, hq, hv1, hv2, hdis, hs0, hsw⟩ := hM
  refine lv_iload_n hx hb dX7_monitorAction_0 rfl (lv_at hl 2 rfl) ?_
  refine lv_if_ne (tgt := 24) hx hb dX7_monitorAction_1 (by decide) (fun c_1 => ?_) (fun c_1 => ?_)
  · refine lv_aload_n hx hb dX7_monitorAction_24 rfl (lv_at hl 0 rfl) ?_
    refine kr_get (C := "MonitorWaysModel") (T := TX7) (N := 27) hx hb hts hin_X7 hown hK hP 0 (by decide) (R_0 _ _ _ _) rfl 12 (by decide) lk_f45 (fun _ h9 => h9) rfl dX7_monitorAction_25 ?_
    refine lv_iload_n hx hb dX7_monitorAction_28 rfl (lv_at hl 3 rfl) ?_
    refine kr_ialdN hx hb hK hP 12 0 (by decide) (R_12 _ _ _ _) rfl (j := mm) (by omega) (by decide) dX7_monitorAction_29 ?_
    refine lv_iload_n hx hb dX7_monitorAction_30 rfl (lv_at hl 1 rfl) ?_
    refine lv_icmp_eq (tgt := 43) hx hb dX7_monitorAction_31 (by decide) (fun c_2 => ?_) (fun c_2 => ?_)
    · refine lv_iload_n hx hb dX7_monitorAction_43 rfl (lv_at hl 2 rfl) ?_
      refine lv_iconst (v := 1) hx hb dX7_monitorAction_44 (by decide) ?_
      refine lv_icmp_ne (tgt := 77) hx hb dX7_monitorAction_45 (by decide) (fun c_3 => ?_) (fun c_3 => ?_)
      · refine lv_iload_n hx hb dX7_monitorAction_77 rfl (lv_at hl 2 rfl) ?_
        refine lv_iconst (v := 4) hx hb dX7_monitorAction_78 (by decide) ?_
        refine lv_icmp_ge (tgt := 91) hx hb dX7_monitorAction_79 (by decide) (fun c_4 => ?_) (fun c_4 => ?_)
        · refine lv_iload_n hx hb dX7_monitorAction_91 rfl (lv_at hl 2 rfl) ?_
          refine lv_iconst (v := 4) hx hb dX7_monitorAction_92 (by decide) ?_
          refine lv_icmp_ne (tgt := 135) hx hb dX7_monitorAction_93 (by decide) (fun c_5 => ?_) (fun c_5 => ?_)
          · refine kr_loop (σ := Nat × ((Nat → Nat → Int32)) × ((Nat → Nat → Int64))) (fun z9 => match z9 with | (k, ivk, lvk) => k) (fun z9 H locs ls => match z9 with | (k, ivk, lvk) => (k ≤ 4) ∧ (okQ ivk mm k) ∧ (nAllM mm k ivk = nAllM mm sz iv) ∧ (nAllN mm k ivk lvk = nAllN mm sz iv lv) ∧ va_P D vwCl (mW 20 (rE gc) (ad, ln, ivk, lvk)) H ∧ va_D A (mW 20 (rE gc) (ad, ln, ivk, lvk)) ∧ va_S A s.heap H locs ∧ lv_has ls 5 [(0, .ref (ad 0)), (1, .int (nI t)), (2, .int x), (3, .int (nI mm)), (4, .int way)]) 135 (sz, iv, lv) ⟨hs4, hq, rfl, rfl, hP, hD, hS, lv_sub hl [0, 1, 2, 3, 4] rfl⟩ ?_
            intro z9 H locs ls hI ih
            obtain ⟨k, ivk, lvk⟩ := z9
            obtain ⟨hk4, hok, hei, hel, hP, hD, hS, hl⟩ := hI
            refine lv_aload_n hx hb dX7_monitorAction_135 rfl (lv_at hl 0 rfl) ?_
            refine kr_get (C := "MonitorWaysModel") (T := TX7) (N := 27) hx hb hts hin_X7 hown hK hP 0 (by decide) (R_0 _ _ _ _) rfl 14 (by decide) lk_f51 (fun _ h9 => h9) rfl dX7_monitorAction_136 ?_
            refine lv_iload_n hx hb dX7_monitorAction_139 rfl (lv_at hl 3 rfl) ?_
            refine kr_ialdN hx hb hK hP 14 0 (by decide) (R_14 _ _ _ _) rfl (j := mm) (by omega) (by decide) dX7_monitorAction_140 ?_
            refine kr_topi (y := nI k) hok.1 ?_
            refine lv_if_le (tgt := 159) hx hb dX7_monitorAction_141 (by decide) (fun c_6 => ?_) (fun c_6 => ?_)
            · have hk0 := eq0_of (by omega) c_6
              subst hk0
              have hei : ivk = nAllM mm sz iv := hei
              have hel : lvk = nAllN mm sz iv lv := hel
              subst hei
              subst hel
              exact kr_vret hx hb hr hlocks hK hP hD hS (mem4 (by unfold m_oMon; first | (rw [if_neg c_1, if_pos c_2, if_neg c_3, if_pos c_4, if_neg c_5]; done) | simp only [if_neg c_1, if_pos c_2, if_neg c_3, if_pos c_4, if_neg c_5]) (by unfold n_oMon; first | (rw [if_neg c_1, if_pos c_2, if_neg c_3, if_pos c_4, if_neg c_5]; done) | simp only [if_neg c_1, if_pos c_2, if_neg c_3, if_pos c_4, if_neg c_5])) dX7_monitorAction_159
            · have hpos := gt0_of (by omega) c_6
              obtain ⟨v, p, hv4, hv, hp, hp1, hp6, hw⟩ := hok.2 0 hpos
              have hv : ivk 15 (4 * mm) = nI v := hv
              refine lv_aload_n hx hb dX7_monitorAction_144 rfl (lv_at hl 0 rfl) ?_
              refine lv_aload_n hx hb dX7_monitorAction_145 rfl (lv_at hl 0 rfl) ?_
              refine kr_get (C := "MonitorWaysModel") (T := TX7) (N := 27) hx hb hts hin_X7 hown hK hP 0 (by decide) (R_0 _ _ _ _) rfl 15 (by decide) lk_f54 (fun _ h9 => h9) rfl dX7_monitorAction_146 ?_
              refine lv_iconst (v := 4) hx hb dX7_monitorAction_149 (by decide) ?_
              refine lv_iload_n hx hb dX7_monitorAction_150 rfl (lv_at hl 3 rfl) ?_
              refine lv_imul hx hb dX7_monitorAction_151 ?_
              refine kr_topi (y := nI (4 * mm)) (pk_mul 4 mm) ?_
              refine kr_ialdN hx hb hK hP 15 0 (by decide) (R_15 _ _ _ _) rfl (j := (4 * mm)) (by omega) (by decide) dX7_monitorAction_152 ?_
              refine kr_topi (y := nI v) hv ?_
              refine kr_callVv (As := [.int (nI v)]) (rest := []) ⟨hx, hb, hml, hown, hts⟩ (c_oNotif l D gc ad ln ivk lvk v (by omega) p hp hp1 hp6 mm hmm hw k hok.1 hk4 0 hpos hv (fun k h => absurd h (Nat.not_lt_zero _))) (cwV 1 hts (goodV (fun _ h => tcons h) tw_724 tw_726 ts_41 tw_8 tw_727) rfl rfl rfl (by decide +kernel) ⟨Nat.le_of_ble_eq_true rfl, Nat.le_of_ble_eq_true rfl⟩) (kr_recv hK hP 0 (by decide) (R_0 _ _ _ _) rfl) hK hP hD hS hA rfl hl.1 rfl (Nat.le_of_ble_eq_true rfl) dX7_monitorAction_153 ⟨Nat.le_of_ble_eq_true rfl, Nat.le_of_ble_eq_true rfl⟩ (fun H locs hP hD hS => ?_)
              refine lv_goto (tgt := 135) hx hb dX7_monitorAction_156 (by decide) ?_
              exact ih (k - 1, (m_oNotif ivk v mm k 0), (n_oNotif ivk lvk v mm k 0)) H locs ls ⟨by omega, (okQ_notif hpos hok), (nAllM_s hpos hv hv4).trans hei, (nAllN_s hpos hv hv4).trans hel, hP, hD, hS, lv_sub hl [0, 1, 2, 3, 4] rfl⟩ (by show (k - 1) < k; omega)
          · refine lv_iload hx hb dX7_monitorAction_96 (lv_at hl 4 rfl) ?_
            refine lv_if_le (tgt := 159) hx hb dX7_monitorAction_98 (by decide) (fun c_7 => ?_) (fun c_7 => ?_)
            · exact kr_vret hx hb hr hlocks hK hP hD hS (mem4 (by unfold m_oMon; first | (rw [if_neg c_1, if_pos c_2, if_neg c_3, if_pos c_4, if_pos c_5, if_pos c_7]; done) | simp only [if_neg c_1, if_pos c_2, if_neg c_3, if_pos c_4, if_pos c_5, if_pos c_7]) (by unfold n_oMon; first | (rw [if_neg c_1, if_pos c_2, if_neg c_3, if_pos c_4, if_pos c_5, if_pos c_7]; done) | simp only [if_neg c_1, if_pos c_2, if_neg c_3, if_pos c_4, if_pos c_5, if_pos c_7])) dX7_monitorAction_159
            · have hpos := hs0 c_5 (Int32.not_le.mp c_7) c_2
              obtain ⟨hv1a, hv1b⟩ := hv1 hpos
              obtain ⟨hv2a, hv2b⟩ := hv2 hpos
              obtain ⟨va, pa, ga1, ga2, ga3, ga4, ga5, ga6⟩ := hq.2 0 hpos
              obtain ⟨vb, pb, gb1, gb2, gb3, gb4, gb5, gb6⟩ := hq.2 (sz - 1) (by omega)
              have ea : va = v1 := (nI_eq (by omega) (by omega)).mp (ga2.symm.trans hv1b)
              subst ea
              have eb : vb = v2 := (nI_eq (by omega) (by omega)).mp (gb2.symm.trans hv2b)
              subst eb
              refine lv_aload_n hx hb dX7_monitorAction_101 rfl (lv_at hl 0 rfl) ?_
              refine lv_aload_n hx hb dX7_monitorAction_102 rfl (lv_at hl 0 rfl) ?_
              refine kr_get (C := "MonitorWaysModel") (T := TX7) (N := 27) hx hb hts hin_X7 hown hK hP 0 (by decide) (R_0 _ _ _ _) rfl 15 (by decide) lk_f54 (fun _ h9 => h9) rfl dX7_monitorAction_103 ?_
              refine lv_iconst (v := 4) hx hb dX7_monitorAction_106 (by decide) ?_
              refine lv_iload_n hx hb dX7_monitorAction_107 rfl (lv_at hl 3 rfl) ?_
              refine lv_imul hx hb dX7_monitorAction_108 ?_
              refine kr_topi (y := nI (4 * mm)) (pk_mul 4 mm) ?_
              refine lv_iload hx hb dX7_monitorAction_109 (lv_at hl 4 rfl) ?_
              refine lv_iconst (v := 1) hx hb dX7_monitorAction_111 (by decide) ?_
              refine lv_icmp_ne (tgt := 119) hx hb dX7_monitorAction_112 (by decide) (fun c_8 => ?_) (fun c_8 => ?_)
              · refine lv_aload_n hx hb dX7_monitorAction_119 rfl (lv_at hl 0 rfl) ?_
                refine kr_get (C := "MonitorWaysModel") (T := TX7) (N := 27) hx hb hts hin_X7 hown hK hP 0 (by decide) (R_0 _ _ _ _) rfl 14 (by decide) lk_f51 (fun _ h9 => h9) rfl dX7_monitorAction_120 ?_
                refine lv_iload_n hx hb dX7_monitorAction_123 rfl (lv_at hl 3 rfl) ?_
                refine kr_ialdN hx hb hK hP 14 0 (by decide) (R_14 _ _ _ _) rfl (j := mm) (by omega) (by decide) dX7_monitorAction_124 ?_
                refine kr_topi (y := nI sz) hq.1 ?_
                refine lv_iconst (v := 1) hx hb dX7_monitorAction_125 (by decide) ?_
                refine lv_isub hx hb dX7_monitorAction_126 ?_
                refine kr_topi (y := nI (sz - 1)) (pk_sub (a := sz) (b := 1) (by omega)) ?_
                refine lv_iadd hx hb dX7_monitorAction_127 ?_
                refine kr_topi (y := nI ((4 * mm) + (sz - 1))) (nI_add (4 * mm) (sz - 1)) ?_
                refine kr_ialdN hx hb hK hP 15 0 (by decide) (R_15 _ _ _ _) rfl (j := ((4 * mm) + (sz - 1))) (by omega) (by decide) dX7_monitorAction_128 ?_
                refine kr_topi (y := nI vb) hv2b ?_
                refine kr_callVv (As := [.int (nI vb)]) (rest := []) ⟨hx, hb, hml, hown, hts⟩ (c_oNotif l D gc ad ln iv lv vb (by omega) pb gb3 gb4 gb5 mm hmm gb6 sz hq.1 hs4 (sz - 1) (by omega) hv2b hdis) (cwV 1 hts (goodV (fun _ h => tcons h) tw_724 tw_726 ts_41 tw_8 tw_727) rfl rfl rfl (by decide +kernel) ⟨Nat.le_of_ble_eq_true rfl, Nat.le_of_ble_eq_true rfl⟩) (kr_recv hK hP 0 (by decide) (R_0 _ _ _ _) rfl) hK hP hD hS hA rfl hl.1 rfl (Nat.le_of_ble_eq_true rfl) dX7_monitorAction_129 ⟨Nat.le_of_ble_eq_true rfl, Nat.le_of_ble_eq_true rfl⟩ (fun H locs hP hD hS => ?_)
                refine lv_goto (tgt := 159) hx hb dX7_monitorAction_132 (by decide) ?_
                exact kr_vret hx hb hr hlocks hK hP hD hS (mem4 (by unfold m_oMon; first | (rw [if_neg c_1, if_pos c_2, if_neg c_3, if_pos c_4, if_pos c_5, if_neg c_7, if_neg c_8]; done) | simp only [if_neg c_1, if_pos c_2, if_neg c_3, if_pos c_4, if_pos c_5, if_neg c_7, if_neg c_8]) (by unfold n_oMon; first | (rw [if_neg c_1, if_pos c_2, if_neg c_3, if_pos c_4, if_pos c_5, if_neg c_7, if_neg c_8]; done) | simp only [if_neg c_1, if_pos c_2, if_neg c_3, if_pos c_4, if_pos c_5, if_neg c_7, if_neg c_8])) dX7_monitorAction_159
              · refine lv_iconst (v := 0) hx hb dX7_monitorAction_115 (by decide) ?_
                refine lv_goto (tgt := 127) hx hb dX7_monitorAction_116 (by decide) ?_
                refine lv_iadd hx hb dX7_monitorAction_127 ?_
                refine kr_topi (y := nI ((4 * mm) + 0)) (nI_add (4 * mm) 0) ?_
                refine kr_ialdN hx hb hK hP 15 0 (by decide) (R_15 _ _ _ _) rfl (j := ((4 * mm) + 0)) (by omega) (by decide) dX7_monitorAction_128 ?_
                refine kr_topi (y := nI va) hv1b ?_
                refine kr_callVv (As := [.int (nI va)]) (rest := []) ⟨hx, hb, hml, hown, hts⟩ (c_oNotif l D gc ad ln iv lv va (by omega) pa ga3 ga4 ga5 mm hmm ga6 sz hq.1 hs4 0 hpos hv1b (fun k h => absurd h (Nat.not_lt_zero _))) (cwV 1 hts (goodV (fun _ h => tcons h) tw_724 tw_726 ts_41 tw_8 tw_727) rfl rfl rfl (by decide +kernel) ⟨Nat.le_of_ble_eq_true rfl, Nat.le_of_ble_eq_true rfl⟩) (kr_recv hK hP 0 (by decide) (R_0 _ _ _ _) rfl) hK hP hD hS hA rfl hl.1 rfl (Nat.le_of_ble_eq_true rfl) dX7_monitorAction_129 ⟨Nat.le_of_ble_eq_true rfl, Nat.le_of_ble_eq_true rfl⟩ (fun H locs hP hD hS => ?_)
                refine lv_goto (tgt := 159) hx hb dX7_monitorAction_132 (by decide) ?_
                exact kr_vret hx hb hr hlocks hK hP hD hS (mem4 (by unfold m_oMon; first | (rw [if_neg c_1, if_pos c_2, if_neg c_3, if_pos c_4, if_pos c_5, if_neg c_7, if_pos c_8]; done) | simp only [if_neg c_1, if_pos c_2, if_neg c_3, if_pos c_4, if_pos c_5, if_neg c_7, if_pos c_8]) (by unfold n_oMon; first | (rw [if_neg c_1, if_pos c_2, if_neg c_3, if_pos c_4, if_pos c_5, if_neg c_7, if_pos c_8]; done) | simp only [if_neg c_1, if_pos c_2, if_neg c_3, if_pos c_4, if_pos c_5, if_neg c_7, if_pos c_8])) dX7_monitorAction_159
        · refine lv_aload_n hx hb dX7_monitorAction_82 rfl (lv_at hl 0 rfl) ?_
          refine lv_iload_n hx hb dX7_monitorAction_83 rfl (lv_at hl 1 rfl) ?_
          refine lv_iload_n hx hb dX7_monitorAction_84 rfl (lv_at hl 3 rfl) ?_
          refine kr_callVv (As := [.int (nI t), .int (nI mm)]) (rest := []) ⟨hx, hb, hml, hown, hts⟩ (c_oWait l D gc ad ln iv lv t mm (by omega) (by omega) sz hq.1 (fun _ => hsw (Int32.not_le.mp c_4) c_2)) (cwV 2 hts (goodV (fun _ h => tcons h) tw_720 tw_722 ts_40 tw_8 tw_723) rfl rfl rfl (by decide +kernel) ⟨Nat.le_of_ble_eq_true rfl, Nat.le_of_ble_eq_true rfl⟩) (kr_recv hK hP 0 (by decide) (R_0 _ _ _ _) rfl) hK hP hD hS hA rfl hl.1 rfl (Nat.le_of_ble_eq_true rfl) dX7_monitorAction_85 ⟨Nat.le_of_ble_eq_true rfl, Nat.le_of_ble_eq_true rfl⟩ (fun H locs hP hD hS => ?_)
          refine lv_goto (tgt := 159) hx hb dX7_monitorAction_88 (by decide) ?_
          exact kr_vret hx hb hr hlocks hK hP hD hS (mem4 (by unfold m_oMon; first | (rw [if_neg c_1, if_pos c_2, if_neg c_3, if_neg c_4]; done) | simp only [if_neg c_1, if_pos c_2, if_neg c_3, if_neg c_4]) (by unfold n_oMon; first | (rw [if_neg c_1, if_pos c_2, if_neg c_3, if_neg c_4]; done) | simp only [if_neg c_1, if_pos c_2, if_neg c_3, if_neg c_4])) dX7_monitorAction_159
      · refine lv_aload_n hx hb dX7_monitorAction_48 rfl (lv_at hl 0 rfl) ?_
        refine kr_get (C := "MonitorWaysModel") (T := TX7) (N := 27) hx hb hts hin_X7 hown hK hP 0 (by decide) (R_0 _ _ _ _) rfl 13 (by decide) lk_f48 (fun _ h9 => h9) rfl dX7_monitorAction_49 ?_
        refine lv_iload_n hx hb dX7_monitorAction_52 rfl (lv_at hl 3 rfl) ?_
        refine lv_dup2_11 hx hb dX7_monitorAction_53 rfl rfl ?_
        refine kr_ialdN hx hb hK hP 13 0 (by decide) (R_13 _ _ _ _) rfl (j := mm) (by omega) (by decide) dX7_monitorAction_54 ?_
        refine lv_iconst (v := 1) hx hb dX7_monitorAction_55 (by decide) ?_
        refine lv_isub hx hb dX7_monitorAction_56 ?_
        refine kr_iastN hx hb hK hP hD hS 13 0 (by decide) (fun _ => R_13 _ _ _ _) rfl (j := mm) (by omega) (by decide) dX7_monitorAction_57 (fun H locs hP hD hS => ?_)
        refine lv_aload_n hx hb dX7_monitorAction_58 rfl (lv_at hl 0 rfl) ?_
        refine kr_get (C := "MonitorWaysModel") (T := TX7) (N := 27) hx hb hts hin_X7 hown hK hP 0 (by decide) (R_0 _ _ _ _) rfl 13 (by decide) lk_f48 (fun _ h9 => h9) rfl dX7_monitorAction_59 ?_
        refine lv_iload_n hx hb dX7_monitorAction_62 rfl (lv_at hl 3 rfl) ?_
        refine kr_ialdN hx hb hK hP 13 0 (by decide) (R_13 _ _ _ _) rfl (j := mm) (by omega) (by decide) dX7_monitorAction_63 ?_
        refine lv_if_ne (tgt := 159) hx hb dX7_monitorAction_64 (by decide) (fun c_9 => ?_) (fun c_9 => ?_)
        · exact kr_vret hx hb hr hlocks hK hP hD hS (mem4 (by unfold m_oMon; first | (rw [if_neg c_1, if_pos c_2, if_pos c_3, if_neg c_9]; done) | simp only [if_neg c_1, if_pos c_2, if_pos c_3, if_neg c_9]) (by unfold n_oMon; first | (rw [if_neg c_1, if_pos c_2, if_pos c_3, if_neg c_9]; done) | simp only [if_neg c_1, if_pos c_2, if_pos c_3, if_neg c_9])) dX7_monitorAction_159
        · refine lv_aload_n hx hb dX7_monitorAction_67 rfl (lv_at hl 0 rfl) ?_
          refine kr_get (C := "MonitorWaysModel") (T := TX7) (N := 27) hx hb hts hin_X7 hown hK hP 0 (by decide) (R_0 _ _ _ _) rfl 12 (by decide) lk_f45 (fun _ h9 => h9) rfl dX7_monitorAction_68 ?_
          refine lv_iload_n hx hb dX7_monitorAction_71 rfl (lv_at hl 3 rfl) ?_
          refine lv_iconst (v := (-1)) hx hb dX7_monitorAction_72 (by decide) ?_
          refine kr_iastN hx hb hK hP hD hS 12 0 (by decide) (fun _ => R_12 _ _ _ _) rfl (j := mm) (by omega) (by decide) dX7_monitorAction_73 (fun H locs hP hD hS => ?_)
          refine lv_goto (tgt := 159) hx hb dX7_monitorAction_74 (by decide) ?_
          exact kr_vret hx hb hr hlocks hK hP hD hS (mem4 (by unfold m_oMon; first | (rw [if_neg c_1, if_pos c_2, if_pos c_3, if_pos c_9]; done) | simp only [if_neg c_1, if_pos c_2, if_pos c_3, if_pos c_9]) (by unfold n_oMon; first | (rw [if_neg c_1, if_pos c_2, if_pos c_3, if_pos c_9]; done) | simp only [if_neg c_1, if_pos c_2, if_pos c_3, if_pos c_9])) dX7_monitorAction_159
    · refine lv_aload_n hx hb dX7_monitorAction_34 rfl (lv_at hl 0 rfl) ?_
      refine lv_iload_n hx hb dX7_monitorAction_35 rfl (lv_at hl 1 rfl) ?_
      refine lv_iconst (v := 0) hx hb dX7_monitorAction_36 (by decide) ?_
      refine kr_callVv (As := [.int (nI t), .int 0]) (rest := []) ⟨hx, hb, hml, hown, hts⟩ (c_oPut l D gc ad ln iv lv t (by omega) 0) (cwV 2 hts (goodV (fun _ h => tcons h) tw_715 tw_717 ts_39 tw_8 tw_718) rfl rfl rfl (by decide +kernel) ⟨Nat.le_of_ble_eq_true rfl, Nat.le_of_ble_eq_true rfl⟩) (kr_recv hK hP 0 (by decide) (R_0 _ _ _ _) rfl) hK hP hD hS hA rfl hl.1 rfl (Nat.le_of_ble_eq_true rfl) dX7_monitorAction_37 ⟨Nat.le_of_ble_eq_true rfl, Nat.le_of_ble_eq_true rfl⟩ (fun H locs hP hD hS => ?_)
      refine lv_goto (tgt := 159) hx hb dX7_monitorAction_40 (by decide) ?_
      exact kr_vret hx hb hr hlocks hK hP hD hS (mem4 (by unfold m_oMon; first | (rw [if_neg c_1, if_neg c_2]; done) | simp only [if_neg c_1, if_neg c_2]) (by unfold n_oMon; first | (rw [if_neg c_1, if_neg c_2]; done) | simp only [if_neg c_1, if_neg c_2])) dX7_monitorAction_159
  · refine lv_aload_n hx hb dX7_monitorAction_4 rfl (lv_at hl 0 rfl) ?_
    refine kr_get (C := "MonitorWaysModel") (T := TX7) (N := 27) hx hb hts hin_X7 hown hK hP 0 (by decide) (R_0 _ _ _ _) rfl 12 (by decide) lk_f45 (fun _ h9 => h9) rfl dX7_monitorAction_5 ?_
    refine lv_iload_n hx hb dX7_monitorAction_8 rfl (lv_at hl 3 rfl) ?_
    refine lv_iload_n hx hb dX7_monitorAction_9 rfl (lv_at hl 1 rfl) ?_
    refine kr_iastN hx hb hK hP hD hS 12 0 (by decide) (fun _ => R_12 _ _ _ _) rfl (j := mm) (by omega) (by decide) dX7_monitorAction_10 (fun H locs hP hD hS => ?_)
    refine lv_aload_n hx hb dX7_monitorAction_11 rfl (lv_at hl 0 rfl) ?_
    refine kr_get (C := "MonitorWaysModel") (T := TX7) (N := 27) hx hb hts hin_X7 hown hK hP 0 (by decide) (R_0 _ _ _ _) rfl 13 (by decide) lk_f48 (fun _ h9 => h9) rfl dX7_monitorAction_12 ?_
    refine lv_iload_n hx hb dX7_monitorAction_15 rfl (lv_at hl 3 rfl) ?_
    refine lv_dup2_11 hx hb dX7_monitorAction_16 rfl rfl ?_
    refine kr_ialdN hx hb hK hP 13 0 (by decide) (R_13 _ _ _ _) rfl (j := mm) (by omega) (by decide) dX7_monitorAction_17 ?_
    refine lv_iconst (v := 1) hx hb dX7_monitorAction_18 (by decide) ?_
    refine lv_iadd hx hb dX7_monitorAction_19 ?_
    refine kr_iastN hx hb hK hP hD hS 13 0 (by decide) (fun _ => R_13 _ _ _ _) rfl (j := mm) (by omega) (by decide) dX7_monitorAction_20 (fun H locs hP hD hS => ?_)
    refine lv_goto (tgt := 159) hx hb dX7_monitorAction_21 (by decide) ?_
    exact kr_vret hx hb hr hlocks hK hP hD hS (mem4 (by unfold m_oMon; first | (rw [if_pos c_1]; done) | simp only [if_pos c_1]) (by unfold n_oMon; first | (rw [if_pos c_1]; done) | simp only [if_pos c_1])) dX7_monitorAction_159
