/-- the number of the state that stands in slot s -/
def bS (iv : Nat → Nat → Int32) (s : Nat) : Nat := (iv 40 s).toNatClampNeg - 1
def hN (iv : Nat → Nat → Int32) (lv : Nat → Nat → Int64) (a : Nat) : Nat := (r_sHash iv lv a).toBitVec.toNat
def prb (iv : Nat → Nat → Int32) (lv : Nat → Nat → Int64) (n a : Nat) : Nat → Nat → Nat
  | 0, s => s
  | k + 1, s => if iv 40 s = 0 then s else if r_sSame iv lv (bS iv s) a = 0 then prb iv lv n a k ((s + 1) % n) else s
def okSl (iv : Nat → Nat → Int32) (ln : Nat → Nat) : Prop := ∀ s, s < ln 40 → ¬ iv 40 s = 0 → iv 40 s = nI (bS iv s + 1) ∧ 4 * bS iv s + 4 ≤ ln 39
theorem prb_e {iv : Nat → Nat → Int32} {lv : Nat → Nat → Int64} {n a k s : Nat} (h : iv 40 s = 0) : prb iv lv n a k s = s := by
  cases k
  · rfl
  · rw [prb, if_pos h]
theorem prb_y {iv : Nat → Nat → Int32} {lv : Nat → Nat → Int64} {n a k s : Nat} (h : ¬ iv 40 s = 0) (h2 : ¬ r_sSame iv lv (bS iv s) a = 0) : prb iv lv n a k s = s := by
  cases k
  · rfl
  · rw [prb, if_neg h, if_neg h2]
theorem prb_s {iv : Nat → Nat → Int32} {lv : Nat → Nat → Int64} {n a i s : Nat} (hi : i < n) (h : ¬ iv 40 s = 0) (h2 : r_sSame iv lv (bS iv s) a = 0) : prb iv lv n a (n - (i + 1)) ((s + 1) % n) = prb iv lv n a (n - i) s := by
  rw [show n - i = (n - (i + 1)) + 1 by omega, prb, if_neg h, if_pos h2]
def slN (iv : Nat → Nat → Int32) (lv : Nat → Nat → Int64) (n a : Nat) : Nat := prb iv lv n a n (hN iv lv a % n)
def r_sSlot (iv : Nat → Nat → Int32) (lv : Nat → Nat → Int64) (ln : Nat → Nat) (a : Nat) : Int32 := nI (slN iv lv (ln 40) a)
theorem prb_lt {iv : Nat → Nat → Int32} {lv : Nat → Nat → Int64} {n a : Nat} : ∀ (k s : Nat), s < n → prb iv lv n a k s < n
  | 0, s, h => h
  | k + 1, s, h => by
    rw [prb]
    split
    · exact h
    · split
      · exact prb_lt k _ (Nat.mod_lt _ (by omega))
      · exact h
set_option maxHeartbeats 4000000 in
set_option maxRecDepth 100000 in
theorem c_sSlot (l : Launch) (D : va_G) (gc : Nat → ClassId) (ad ln : Nat → Nat) (iv : Nat → Nat → Int32) (lv : Nat → Nat → Int64) (a : Nat) (ha : 4 * a + 4 ≤ ln 39) (e : Nat) (hln : ln 40 = 2 ^ e) (he : e ≤ 14) (hnw : ln 39 < 2 ^ 31) (hsl : okSl iv ln) : kMi l yX4_slotOf wX4_slotOf ({ frames := 1, cells := 0, slots := 0, locals := 24 }) D vwCl (kT gc) 42 (kE gc) [.ref (ad 38), .int (nI a)] (ad, ln, iv, lv) (ad, ln, iv, lv) (r_sSlot iv lv ln a) := by
  refine ki_start (cc := cX4_slotOf) (maxL := 5) (ret := (some .int)) (by decide) rfl (Nat.le_of_ble_eq_true rfl) ?_
  intro p9 e9 s m9 below meth c9 A ls hx hb hr hts hown hlocks hml hA hK hP hD hS hl
  have hl : lv_has ls 5 [(0, .ref (ad 38)), (1, .int (nI a))] := hl
  have hown : s.vm.findClass "MonitorWays$States" = some m9.cls := hown
  have hin_X4 : ∀ w ∈ u_ws "MonitorWays$States" TX4 3, w ∈ wX4_slotOf := fun w h => tcons (inX4 w h)
  have lk_f19 := hts _ (tcons tw_155)
  have hpos : 0 < ln 40 := by rw [hln]; exact Nat.two_pow_pos e
  have h14 : ln 40 ≤ 16384 := by rw [hln]; exact Nat.pow_le_pow_right (by decide) he
  have hns : ln 40 < 2 ^ 31 := by omega
  have hmask : (nI (ln 40 - 1)).toBitVec.toNat = 2 ^ e - 1 := by rw [pk_tn (by omega), hln]
  refine lv_aload_n hx hb dX4_slotOf_0 rfl (lv_at hl 0 rfl) ?_
  refine kr_get (C := "MonitorWays$States") (T := TX4) (N := 3) hx hb hts hin_X4 hown hK hP 38 (by decide) (E_sts _ _ _ _) rfl 2 (by decide) lk_f19 (fun _ h9 => h9) rfl dX4_slotOf_1 ?_
  refine kr_alen hx hb hK hP 40 0 (by decide) (E_slots _ _ _ _) rfl rfl dX4_slotOf_4 ?_
  refine lv_iconst (v := 1) hx hb dX4_slotOf_5 (by decide) ?_
  refine lv_isub hx hb dX4_slotOf_6 ?_
  refine kr_topi (y := nI ((ln 40) - 1)) (pk_sub (a := (ln 40)) (b := 1) (by omega)) ?_
  refine lv_istore_n (lv' := [(2, .int (nI ((ln 40) - 1))), (0, .ref (ad 38)), (1, .int (nI a))]) hx hb dX4_slotOf_7 rfl hl (by decide) rfl (fun ls hl => ?_)
  refine lv_aload_n hx hb dX4_slotOf_8 rfl (lv_at hl 1 rfl) ?_
  refine lv_iload_n hx hb dX4_slotOf_9 rfl (lv_at hl 2 rfl) ?_
  refine kr_callVi (As := [.int (nI a)]) (rest := []) ⟨hx, hb, hml, hown, hts⟩ (c_sHash l D gc ad ln iv lv a hnw ha) (cwV 1 hts (goodV (fun _ h => tcons h) tw_451 tw_453 ts_18 tw_7 tw_454) rfl rfl rfl (by decide +kernel) ⟨Nat.le_of_ble_eq_true rfl, Nat.le_of_ble_eq_true rfl⟩) (kr_recv hK hP 38 (by decide) (E_sts _ _ _ _) rfl) hK hP hD hS hA rfl hl.1 rfl (Nat.le_of_ble_eq_true rfl) dX4_slotOf_10 ⟨Nat.le_of_ble_eq_true rfl, Nat.le_of_ble_eq_true rfl⟩ (fun H locs hP hD hS => ?_)
  refine lv_iload_n hx hb dX4_slotOf_13 rfl (lv_at hl 0 rfl) ?_
  refine lv_iand hx hb dX4_slotOf_14 ?_
  refine kr_topi (y := nI (hN iv lv a % ln 40)) ((pk_and _ e hmask).trans (by rw [hln]; rfl)) ?_
  refine lv_istore_n (lv' := [(3, .int (nI (hN iv lv a % ln 40))), (2, .int (nI ((ln 40) - 1))), (0, .ref (ad 38)), (1, .int (nI a))]) hx hb dX4_slotOf_15 rfl hl (by decide) rfl (fun ls hl => ?_)
  refine lv_iconst (v := 0) hx hb dX4_slotOf_16 (by decide) ?_
  refine lv_istore (lv' := [(4, .int 0), (3, .int (nI (hN iv lv a % ln 40))), (2, .int (nI ((ln 40) - 1))), (0, .ref (ad 38)), (1, .int (nI a))]) hx hb dX4_slotOf_17 hl (by decide) rfl (fun ls hl => ?_)
  refine kr_loop (σ := Nat × Nat) (fun z9 => match z9 with | (i, s_) => ln 40 - i) (fun z9 H locs ls => match z9 with | (i, s_) => (i ≤ ln 40) ∧ (s_ < ln 40) ∧ (prb iv lv (ln 40) a (ln 40 - i) s_ = slN iv lv (ln 40) a) ∧ va_P D vwCl (mW 42 (kE gc) (ad, ln, iv, lv)) H ∧ va_D A (mW 42 (kE gc) (ad, ln, iv, lv)) ∧ va_S A s.heap H locs ∧ lv_has ls 5 [(0, .ref (ad 38)), (1, .int (nI a)), (2, .int (nI (ln 40 - 1))), (3, .int (nI s_)), (4, .int (nI i))]) 19 (0, (hN iv lv a % ln 40)) ⟨Nat.zero_le _, (Nat.mod_lt _ hpos), rfl, hP, hD, hS, lv_sub hl [3, 4, 2, 1, 0] rfl⟩ ?_
  intro z9 H locs ls hI ih
  obtain ⟨i, s_⟩ := z9
  obtain ⟨hi, hs, heq, hP, hD, hS, hl⟩ := hI
  refine lv_iload hx hb dX4_slotOf_19 (lv_at hl 4 rfl) ?_
  refine lv_aload_n hx hb dX4_slotOf_21 rfl (lv_at hl 0 rfl) ?_
  refine kr_get (C := "MonitorWays$States") (T := TX4) (N := 3) hx hb hts hin_X4 hown hK hP 38 (by decide) (E_sts _ _ _ _) rfl 2 (by decide) lk_f19 (fun _ h9 => h9) rfl dX4_slotOf_22 ?_
  refine kr_alen hx hb hK hP 40 0 (by decide) (E_slots _ _ _ _) rfl rfl dX4_slotOf_25 ?_
  refine lv_icmp_ge (tgt := 69) hx hb dX4_slotOf_26 (by decide) (fun c_1 => ?_) (fun c_1 => ?_)
  · have hres : nI s_ = r_sSlot iv lv ln a := by unfold r_sSlot; rw [← heq, show ln 40 - i = 0 by have := (nI_leI (by omega) (by omega)).mp c_1; omega, prb]
    refine lv_iload_n hx hb dX4_slotOf_69 rfl (lv_at hl 3 rfl) ?_
    exact kr_iret hx hb hr hlocks hK hP hD hS hres rfl dX4_slotOf_70
  · have hlt : i < ln 40 := lt_of_nle (by omega) (by omega) c_1
    refine lv_aload_n hx hb dX4_slotOf_29 rfl (lv_at hl 0 rfl) ?_
    refine kr_get (C := "MonitorWays$States") (T := TX4) (N := 3) hx hb hts hin_X4 hown hK hP 38 (by decide) (E_sts _ _ _ _) rfl 2 (by decide) lk_f19 (fun _ h9 => h9) rfl dX4_slotOf_30 ?_
    refine lv_iload_n hx hb dX4_slotOf_33 rfl (lv_at hl 3 rfl) ?_
    refine kr_ialdN hx hb hK hP 40 0 (by decide) (E_slots _ _ _ _) rfl (j := s_) (by omega) hns dX4_slotOf_34 ?_
    refine lv_if_eq (tgt := 69) hx hb dX4_slotOf_35 (by decide) (fun c_2 => ?_) (fun c_2 => ?_)
    · have hres : nI s_ = r_sSlot iv lv ln a := by unfold r_sSlot; rw [← heq, prb_e c_2]
      refine lv_iload_n hx hb dX4_slotOf_69 rfl (lv_at hl 3 rfl) ?_
      exact kr_iret hx hb hr hlocks hK hP hD hS hres rfl dX4_slotOf_70
    · obtain ⟨hb1, hb2⟩ := hsl s_ hs c_2
      refine lv_aload_n hx hb dX4_slotOf_38 rfl (lv_at hl 0 rfl) ?_
      refine lv_aload_n hx hb dX4_slotOf_39 rfl (lv_at hl 0 rfl) ?_
      refine kr_get (C := "MonitorWays$States") (T := TX4) (N := 3) hx hb hts hin_X4 hown hK hP 38 (by decide) (E_sts _ _ _ _) rfl 2 (by decide) lk_f19 (fun _ h9 => h9) rfl dX4_slotOf_40 ?_
      refine lv_iload_n hx hb dX4_slotOf_43 rfl (lv_at hl 3 rfl) ?_
      refine kr_ialdN hx hb hK hP 40 0 (by decide) (E_slots _ _ _ _) rfl (j := s_) (by omega) hns dX4_slotOf_44 ?_
      refine kr_topi (y := nI (bS iv s_ + 1)) hb1 ?_
      refine lv_iconst (v := 1) hx hb dX4_slotOf_45 (by decide) ?_
      refine lv_isub hx hb dX4_slotOf_46 ?_
      refine kr_topi (y := nI ((bS iv s_ + 1) - 1)) (pk_sub (a := (bS iv s_ + 1)) (b := 1) (by omega)) ?_
      refine kr_topi (y := nI (bS iv s_)) rfl ?_
      refine lv_iload_n hx hb dX4_slotOf_47 rfl (lv_at hl 1 rfl) ?_
      refine kr_callVi (As := [.int (nI (bS iv s_)), .int (nI a)]) (rest := []) ⟨hx, hb, hml, hown, hts⟩ (c_sSame l D gc ad ln iv lv (bS iv s_) a hnw hb2 ha) (cwV 2 hts (goodV (fun _ h => tcons h) tw_456 tw_458 ts_19 tw_7 tw_459) rfl rfl rfl (by decide +kernel) ⟨Nat.le_of_ble_eq_true rfl, Nat.le_of_ble_eq_true rfl⟩) (kr_recv hK hP 38 (by decide) (E_sts _ _ _ _) rfl) hK hP hD hS hA rfl hl.1 rfl (Nat.le_of_ble_eq_true rfl) dX4_slotOf_48 ⟨Nat.le_of_ble_eq_true rfl, Nat.le_of_ble_eq_true rfl⟩ (fun H locs hP hD hS => ?_)
      refine lv_if_eq (tgt := 57) hx hb dX4_slotOf_51 (by decide) (fun c_3 => ?_) (fun c_3 => ?_)
      · refine lv_iload_n hx hb dX4_slotOf_57 rfl (lv_at hl 3 rfl) ?_
        refine lv_iconst (v := 1) hx hb dX4_slotOf_58 (by decide) ?_
        refine lv_iadd hx hb dX4_slotOf_59 ?_
        refine kr_topi (y := nI (s_ + 1)) (nI_add s_ 1) ?_
        refine lv_iload_n hx hb dX4_slotOf_60 rfl (lv_at hl 2 rfl) ?_
        refine lv_iand hx hb dX4_slotOf_61 ?_
        refine kr_topi (y := nI ((s_ + 1) % ln 40)) ((pk_andN (by omega) e hmask).trans (by rw [hln])) ?_
        refine lv_istore_n (lv' := [(3, .int (nI ((s_ + 1) % ln 40))), (0, .ref (ad 38)), (1, .int (nI a)), (2, .int (nI (ln 40 - 1))), (4, .int (nI i))]) hx hb dX4_slotOf_62 rfl hl (by decide) rfl (fun ls hl => ?_)
        refine lv_iinc (v := nI (i + 1)) (lv' := [(4, .int (nI (i + 1))), (3, .int (nI ((s_ + 1) % ln 40))), (0, .ref (ad 38)), (1, .int (nI a)), (2, .int (nI (ln 40 - 1)))]) hx hb dX4_slotOf_63 hl (k := 4) rfl (nI_1 i) (by decide) rfl (fun ls hl => ?_)
        refine lv_goto (tgt := 19) hx hb dX4_slotOf_66 (by decide) ?_
        exact ih (i + 1, ((s_ + 1) % ln 40)) H locs ls ⟨by omega, (Nat.mod_lt _ hpos), (prb_s hlt c_2 c_3).trans heq, hP, hD, hS, lv_sub hl [2, 3, 4, 1, 0] rfl⟩ (by show ln 40 - (i + 1) < ln 40 - i; omega)
      · refine lv_goto (tgt := 69) hx hb dX4_slotOf_54 (by decide) ?_
        have hres : nI s_ = r_sSlot iv lv ln a := by unfold r_sSlot; rw [← heq, prb_y c_2 c_3]
        refine lv_iload_n hx hb dX4_slotOf_69 rfl (lv_at hl 3 rfl) ?_
        exact kr_iret hx hb hr hlocks hK hP hD hS hres rfl dX4_slotOf_70
/-- the size that Monitor.unpack reads out of a word -/
def shX (x : Int64) : Int32 := (((x.toUInt64 >>> ((40 : Int32).toInt64.toUInt64 &&& Int64.toUInt64 63)).toInt64).toInt32 &&& 131071)
def szU (x : Int64) : Nat := (if (4 : Int32) < ((shX x >>> ((6 : Int32) &&& 31)) &&& 7) then (4 : Int32) else ((shX x >>> ((6 : Int32) &&& 31)) &&& 7)).toNatClampNeg
theorem szU_ok (x : Int64) : (if (4 : Int32) < ((shX x >>> ((6 : Int32) &&& 31)) &&& 7) then (4 : Int32) else ((shX x >>> ((6 : Int32) &&& 31)) &&& 7)) = nI (szU x) ∧ szU x ≤ 4 := by
  unfold szU
  obtain ⟨j, hj, e⟩ := pk_andE (shX x >>> ((6 : Int32) &&& 31)) (m := 7) 3 (by decide)
  rw [e]
  split
  · exact ⟨rfl, by decide⟩
  · rename_i h
    have hj4 : j ≤ 4 := by
      rcases Nat.lt_or_ge 4 j with q | q
      · exact absurd ((nI_ltI (a := 4) (by decide) (by omega)).mpr q) h
      · exact q
    rw [nI_clamp (by omega)]
    exact ⟨rfl, hj4⟩
def m_sRest (iv : Nat → Nat → Int32) (lv : Nat → Nat → Int64) (a : Nat) : Nat → Nat → Int32 := (m_aUnword (m_aUnword (m_aUnword (m_aUnword iv 1 0 (lv 39 ((a * 4) + 0)) (szU (lv 39 ((a * 4) + 0)))) 1 1 (lv 39 ((a * 4) + 1)) (szU (lv 39 ((a * 4) + 1)))) 1 2 (lv 39 ((a * 4) + 2)) (szU (lv 39 ((a * 4) + 2)))) 1 3 (lv 39 ((a * 4) + 3)) (szU (lv 39 ((a * 4) + 3))))
set_option maxHeartbeats 4000000 in
set_option maxRecDepth 100000 in
theorem c_sRest (l : Launch) (D : va_G) (gc : Nat → ClassId) (ad ln : Nat → Nat) (iv : Nat → Nat → Int32) (lv : Nat → Nat → Int64) (a : Nat) (hnw : ln 39 < 2 ^ 31) (ha : 4 * a + 4 ≤ ln 39) : kMv l yX4_restore wX4_restore ({ frames := 3, cells := 0, slots := 0, locals := 67 }) D vwCl (kT gc) 42 (kE gc) [.ref (ad 38), .int (nI a), .ref (ad (14 + 1))] (ad, ln, iv, lv) (ad, ln, m_sRest iv lv a, lv) := by
  refine kv_start (cc := cX4_restore) (maxL := 4) (by decide) rfl (Nat.le_of_ble_eq_true rfl) ?_
  intro p9 e9 s m9 below meth c9 A ls hx hb hr hts hown hlocks hml hA hK hP hD hS hl
  have hl : lv_has ls 4 [(0, .ref (ad 38)), (1, .int (nI a)), (2, .ref (ad (14 + 1)))] := hl
  have hown : s.vm.findClass "MonitorWays$States" = some m9.cls := hown
  have hin_X4 : ∀ w ∈ u_ws "MonitorWays$States" TX4 3, w ∈ wX4_restore := fun w h => tcons (inX4 w h)
  have lk_f15 := hts _ (tcons tw_154)
  refine lv_iconst (v := 0) hx hb dX4_restore_0 (by decide) ?_
  refine lv_istore_n (lv' := [(3, .int 0), (0, .ref (ad 38)), (1, .int (nI a)), (2, .ref (ad (14 + 1)))]) hx hb dX4_restore_1 rfl hl (by decide) rfl (fun ls hl => ?_)
  refine lv_iload_n hx hb dX4_restore_2 rfl (lv_at hl 0 rfl) ?_
  refine lv_iconst (v := 4) hx hb dX4_restore_3 (by decide) ?_
  refine lv_icmp_ge (tgt := 28) hx hb dX4_restore_4 (by decide) (fun c_1 => absurd c_1 (by decide)) (fun c_1 => ?_)
  refine lv_aload_n hx hb dX4_restore_7 rfl (lv_at hl 3 rfl) ?_
  refine lv_iload_n hx hb dX4_restore_8 rfl (lv_at hl 0 rfl) ?_
  refine lv_aload_n hx hb dX4_restore_9 rfl (lv_at hl 1 rfl) ?_
  refine kr_get (C := "MonitorWays$States") (T := TX4) (N := 3) hx hb hts hin_X4 hown hK hP 38 (by decide) (E_sts _ _ _ _) rfl 1 (by decide) lk_f15 (fun _ h9 => h9) rfl dX4_restore_10 ?_
  refine lv_iload_n hx hb dX4_restore_13 rfl (lv_at hl 2 rfl) ?_
  refine lv_iconst (v := 4) hx hb dX4_restore_14 (by decide) ?_
  refine lv_imul hx hb dX4_restore_15 ?_
  refine kr_topi (y := nI (a * 4)) (pk_mul a 4) ?_
  refine lv_iload_n hx hb dX4_restore_16 rfl (lv_at hl 0 rfl) ?_
  refine lv_iadd hx hb dX4_restore_17 ?_
  refine kr_topi (y := nI ((a * 4) + 0)) (nI_add (a * 4) 0) ?_
  refine kr_laldN hx hb hK hP 39 2 (by decide) (E_words _ _ _ _) rfl (j := ((a * 4) + 0)) (by omega) hnw dX4_restore_18 ?_
  refine kr_callVv (As := [.int 0, .long (lv 39 ((a * 4) + 0))]) (rest := []) ⟨hx, hb, hml, hown, hts⟩ (c_aUnword l D gc ad ln iv lv 1 0 (by decide) (by decide) (lv 39 ((a * 4) + 0)) (szU (lv 39 ((a * 4) + 0))) (szU_ok _).1 (szU_ok _).2) (cwV 2 hts (goodV (fun _ h => tcons h) tw_484 tw_485 tw_486 tw_3 tw_487) rfl rfl rfl (by decide +kernel) ⟨Nat.le_of_ble_eq_true rfl, Nat.le_of_ble_eq_true rfl⟩) (kr_recv hK hP (14 + 1) (by omega) (E_mach (by decide) _ _ _ _) rfl) hK hP hD hS hA rfl hl.1 rfl (Nat.le_of_ble_eq_true rfl) dX4_restore_19 ⟨Nat.le_of_ble_eq_true rfl, Nat.le_of_ble_eq_true rfl⟩ (fun H locs hP hD hS => ?_)
  refine lv_iinc (v := 1) (lv' := [(3, .int 1), (0, .ref (ad 38)), (1, .int (nI a)), (2, .ref (ad (14 + 1)))]) hx hb dX4_restore_22 hl (k := 0) rfl (by decide) (by decide) rfl (fun ls hl => ?_)
  refine lv_goto (tgt := 2) hx hb dX4_restore_25 (by decide) ?_
  refine lv_iload_n hx hb dX4_restore_2 rfl (lv_at hl 0 rfl) ?_
  refine lv_iconst (v := 4) hx hb dX4_restore_3 (by decide) ?_
  refine lv_icmp_ge (tgt := 28) hx hb dX4_restore_4 (by decide) (fun c_2 => absurd c_2 (by decide)) (fun c_2 => ?_)
  refine lv_aload_n hx hb dX4_restore_7 rfl (lv_at hl 3 rfl) ?_
  refine lv_iload_n hx hb dX4_restore_8 rfl (lv_at hl 0 rfl) ?_
  refine lv_aload_n hx hb dX4_restore_9 rfl (lv_at hl 1 rfl) ?_
  refine kr_get (C := "MonitorWays$States") (T := TX4) (N := 3) hx hb hts hin_X4 hown hK hP 38 (by decide) (E_sts _ _ _ _) rfl 1 (by decide) lk_f15 (fun _ h9 => h9) rfl dX4_restore_10 ?_
  refine lv_iload_n hx hb dX4_restore_13 rfl (lv_at hl 2 rfl) ?_
  refine lv_iconst (v := 4) hx hb dX4_restore_14 (by decide) ?_
  refine lv_imul hx hb dX4_restore_15 ?_
  refine kr_topi (y := nI (a * 4)) (pk_mul a 4) ?_
  refine lv_iload_n hx hb dX4_restore_16 rfl (lv_at hl 0 rfl) ?_
  refine lv_iadd hx hb dX4_restore_17 ?_
  refine kr_topi (y := nI ((a * 4) + 1)) (nI_add (a * 4) 1) ?_
  refine kr_laldN hx hb hK hP 39 2 (by decide) (E_words _ _ _ _) rfl (j := ((a * 4) + 1)) (by omega) hnw dX4_restore_18 ?_
  refine kr_callVv (As := [.int 1, .long (lv 39 ((a * 4) + 1))]) (rest := []) ⟨hx, hb, hml, hown, hts⟩ (c_aUnword l D gc ad ln (m_aUnword iv 1 0 (lv 39 ((a * 4) + 0)) (szU (lv 39 ((a * 4) + 0)))) lv 1 1 (by decide) (by decide) (lv 39 ((a * 4) + 1)) (szU (lv 39 ((a * 4) + 1))) (szU_ok _).1 (szU_ok _).2) (cwV 2 hts (goodV (fun _ h => tcons h) tw_484 tw_485 tw_486 tw_3 tw_487) rfl rfl rfl (by decide +kernel) ⟨Nat.le_of_ble_eq_true rfl, Nat.le_of_ble_eq_true rfl⟩) (kr_recv hK hP (14 + 1) (by omega) (E_mach (by decide) _ _ _ _) rfl) hK hP hD hS hA rfl hl.1 rfl (Nat.le_of_ble_eq_true rfl) dX4_restore_19 ⟨Nat.le_of_ble_eq_true rfl, Nat.le_of_ble_eq_true rfl⟩ (fun H locs hP hD hS => ?_)
  refine lv_iinc (v := 2) (lv' := [(3, .int 2), (0, .ref (ad 38)), (1, .int (nI a)), (2, .ref (ad (14 + 1)))]) hx hb dX4_restore_22 hl (k := 0) rfl (by decide) (by decide) rfl (fun ls hl => ?_)
  refine lv_goto (tgt := 2) hx hb dX4_restore_25 (by decide) ?_
  refine lv_iload_n hx hb dX4_restore_2 rfl (lv_at hl 0 rfl) ?_
  refine lv_iconst (v := 4) hx hb dX4_restore_3 (by decide) ?_
  refine lv_icmp_ge (tgt := 28) hx hb dX4_restore_4 (by decide) (fun c_3 => absurd c_3 (by decide)) (fun c_3 => ?_)
  refine lv_aload_n hx hb dX4_restore_7 rfl (lv_at hl 3 rfl) ?_
  refine lv_iload_n hx hb dX4_restore_8 rfl (lv_at hl 0 rfl) ?_
  refine lv_aload_n hx hb dX4_restore_9 rfl (lv_at hl 1 rfl) ?_
  refine kr_get (C := "MonitorWays$States") (T := TX4) (N := 3) hx hb hts hin_X4 hown hK hP 38 (by decide) (E_sts _ _ _ _) rfl 1 (by decide) lk_f15 (fun _ h9 => h9) rfl dX4_restore_10 ?_
  refine lv_iload_n hx hb dX4_restore_13 rfl (lv_at hl 2 rfl) ?_
  refine lv_iconst (v := 4) hx hb dX4_restore_14 (by decide) ?_
  refine lv_imul hx hb dX4_restore_15 ?_
  refine kr_topi (y := nI (a * 4)) (pk_mul a 4) ?_
  refine lv_iload_n hx hb dX4_restore_16 rfl (lv_at hl 0 rfl) ?_
  refine lv_iadd hx hb dX4_restore_17 ?_
  refine kr_topi (y := nI ((a * 4) + 2)) (nI_add (a * 4) 2) ?_
  refine kr_laldN hx hb hK hP 39 2 (by decide) (E_words _ _ _ _) rfl (j := ((a * 4) + 2)) (by omega) hnw dX4_restore_18 ?_
  refine kr_callVv (As := [.int 2, .long (lv 39 ((a * 4) + 2))]) (rest := []) ⟨hx, hb, hml, hown, hts⟩ (c_aUnword l D gc ad ln (m_aUnword (m_aUnword iv 1 0 (lv 39 ((a * 4) + 0)) (szU (lv 39 ((a * 4) + 0)))) 1 1 (lv 39 ((a * 4) + 1)) (szU (lv 39 ((a * 4) + 1)))) lv 1 2 (by decide) (by decide) (lv 39 ((a * 4) + 2)) (szU (lv 39 ((a * 4) + 2))) (szU_ok _).1 (szU_ok _).2) (cwV 2 hts (goodV (fun _ h => tcons h) tw_484 tw_485 tw_486 tw_3 tw_487) rfl rfl rfl (by decide +kernel) ⟨Nat.le_of_ble_eq_true rfl, Nat.le_of_ble_eq_true rfl⟩) (kr_recv hK hP (14 + 1) (by omega) (E_mach (by decide) _ _ _ _) rfl) hK hP hD hS hA rfl hl.1 rfl (Nat.le_of_ble_eq_true rfl) dX4_restore_19 ⟨Nat.le_of_ble_eq_true rfl, Nat.le_of_ble_eq_true rfl⟩ (fun H locs hP hD hS => ?_)
  refine lv_iinc (v := 3) (lv' := [(3, .int 3), (0, .ref (ad 38)), (1, .int (nI a)), (2, .ref (ad (14 + 1)))]) hx hb dX4_restore_22 hl (k := 0) rfl (by decide) (by decide) rfl (fun ls hl => ?_)
  refine lv_goto (tgt := 2) hx hb dX4_restore_25 (by decide) ?_
  refine lv_iload_n hx hb dX4_restore_2 rfl (lv_at hl 0 rfl) ?_
  refine lv_iconst (v := 4) hx hb dX4_restore_3 (by decide) ?_
  refine lv_icmp_ge (tgt := 28) hx hb dX4_restore_4 (by decide) (fun c_4 => absurd c_4 (by decide)) (fun c_4 => ?_)
  refine lv_aload_n hx hb dX4_restore_7 rfl (lv_at hl 3 rfl) ?_
  refine lv_iload_n hx hb dX4_restore_8 rfl (lv_at hl 0 rfl) ?_
  refine lv_aload_n hx hb dX4_restore_9 rfl (lv_at hl 1 rfl) ?_
  refine kr_get (C := "MonitorWays$States") (T := TX4) (N := 3) hx hb hts hin_X4 hown hK hP 38 (by decide) (E_sts _ _ _ _) rfl 1 (by decide) lk_f15 (fun _ h9 => h9) rfl dX4_restore_10 ?_
  refine lv_iload_n hx hb dX4_restore_13 rfl (lv_at hl 2 rfl) ?_
  refine lv_iconst (v := 4) hx hb dX4_restore_14 (by decide) ?_
  refine lv_imul hx hb dX4_restore_15 ?_
  refine kr_topi (y := nI (a * 4)) (pk_mul a 4) ?_
  refine lv_iload_n hx hb dX4_restore_16 rfl (lv_at hl 0 rfl) ?_
  refine lv_iadd hx hb dX4_restore_17 ?_
  refine kr_topi (y := nI ((a * 4) + 3)) (nI_add (a * 4) 3) ?_
  refine kr_laldN hx hb hK hP 39 2 (by decide) (E_words _ _ _ _) rfl (j := ((a * 4) + 3)) (by omega) hnw dX4_restore_18 ?_
  refine kr_callVv (As := [.int 3, .long (lv 39 ((a * 4) + 3))]) (rest := []) ⟨hx, hb, hml, hown, hts⟩ (c_aUnword l D gc ad ln (m_aUnword (m_aUnword (m_aUnword iv 1 0 (lv 39 ((a * 4) + 0)) (szU (lv 39 ((a * 4) + 0)))) 1 1 (lv 39 ((a * 4) + 1)) (szU (lv 39 ((a * 4) + 1)))) 1 2 (lv 39 ((a * 4) + 2)) (szU (lv 39 ((a * 4) + 2)))) lv 1 3 (by decide) (by decide) (lv 39 ((a * 4) + 3)) (szU (lv 39 ((a * 4) + 3))) (szU_ok _).1 (szU_ok _).2) (cwV 2 hts (goodV (fun _ h => tcons h) tw_484 tw_485 tw_486 tw_3 tw_487) rfl rfl rfl (by decide +kernel) ⟨Nat.le_of_ble_eq_true rfl, Nat.le_of_ble_eq_true rfl⟩) (kr_recv hK hP (14 + 1) (by omega) (E_mach (by decide) _ _ _ _) rfl) hK hP hD hS hA rfl hl.1 rfl (Nat.le_of_ble_eq_true rfl) dX4_restore_19 ⟨Nat.le_of_ble_eq_true rfl, Nat.le_of_ble_eq_true rfl⟩ (fun H locs hP hD hS => ?_)
  refine lv_iinc (v := 4) (lv' := [(3, .int 4), (0, .ref (ad 38)), (1, .int (nI a)), (2, .ref (ad (14 + 1)))]) hx hb dX4_restore_22 hl (k := 0) rfl (by decide) (by decide) rfl (fun ls hl => ?_)
  refine lv_goto (tgt := 2) hx hb dX4_restore_25 (by decide) ?_
  refine lv_iload_n hx hb dX4_restore_2 rfl (lv_at hl 0 rfl) ?_
  refine lv_iconst (v := 4) hx hb dX4_restore_3 (by decide) ?_
  refine lv_icmp_ge (tgt := 28) hx hb dX4_restore_4 (by decide) (fun c_5 => ?_) (fun c_5 => absurd (by decide) c_5)
  exact kr_vret hx hb hr hlocks hK hP hD hS rfl dX4_restore_28
