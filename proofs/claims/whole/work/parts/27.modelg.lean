def divL : Nat → Int64 → Int64
  | 0, x => x
  | j + 1, x => divL j (x / 12)
theorem divL_s {n i : Nat} {x : Int64} (h : i < n) : divL (n - (i + 1)) (x / 12) = divL (n - i) x := by
  rw [show n - i = (n - (i + 1)) + 1 by omega]
  rfl
def r_oLetter (iv : Nat → Nat → Int32) (lv : Nat → Nat → Int64) (tt : Int32) (t : Nat) (k : Int32) (n kx : Nat) : Int32 :=
  if r_oOut iv tt 4 = 0 then (if r_oOut (m_oUnp iv lv 16 0) k (nI n) = 0 then (divL (n - (kx + 1)) ((n_oUnp iv lv 16 0) 8 t) - divL (n - (kx + 1)) ((n_oUnp iv lv 16 0) 8 t) / 12 * 12).toInt32 else -1) else -1
def m_oLetter (iv : Nat → Nat → Int32) (lv : Nat → Nat → Int64) (tt : Int32) : Nat → Nat → Int32 := if r_oOut iv tt 4 = 0 then m_oUnp iv lv 16 0 else iv
def n_oLetter (iv : Nat → Nat → Int32) (lv : Nat → Nat → Int64) (tt : Int32) : Nat → Nat → Int64 := if r_oOut iv tt 4 = 0 then n_oUnp iv lv 16 0 else lv
/-- states i and n of met are the same -/
def sameR (lv : Nat → Nat → Int64) (i n : Nat) : Prop := lv 17 (5 * i) = lv 17 (5 * n) ∧ lv 17 (5 * i + 1) = lv 17 (5 * n + 1) ∧ lv 17 (5 * i + 2) = lv 17 (5 * n + 2) ∧ lv 17 (5 * i + 3) = lv 17 (5 * n + 3) ∧ lv 17 (5 * i + 4) = lv 17 (5 * n + 4)
noncomputable def m_oMeet (iv : Nat → Nat → Int32) (lv : Nat → Nat → Int64) (n : Nat) : Nat → Nat → Int32 :=
  @ite _ (3000 < n ∨ ∃ i, i < n ∧ sameR (n_oPack iv lv 17 (5 * n)) i n) (Classical.propDecidable _) iv (up2 iv 0 19 (nI (n + 1)))
def n_oMeet (iv : Nat → Nat → Int32) (lv : Nat → Nat → Int64) (n : Nat) : Nat → Nat → Int64 := if 3000 < n then lv else n_oPack iv lv 17 (5 * n)
theorem oMeet_y {iv : Nat → Nat → Int32} {lv : Nat → Nat → Int64} {n : Nat} (h : 3000 < n ∨ ∃ i, i < n ∧ sameR (n_oPack iv lv 17 (5 * n)) i n) : m_oMeet iv lv n = iv := by
  unfold m_oMeet; rw [if_pos h]
theorem oMeet_n {iv : Nat → Nat → Int32} {lv : Nat → Nat → Int64} {n : Nat} (h : ¬ (3000 < n ∨ ∃ i, i < n ∧ sameR (n_oPack iv lv 17 (5 * n)) i n)) : m_oMeet iv lv n = up2 iv 0 19 (nI (n + 1)) := by
  unfold m_oMeet; rw [if_neg h]
set_option maxHeartbeats 4000000 in
set_option maxRecDepth 100000 in
theorem c_oLetter (l : Launch) (D : va_G) (gc : Nat → ClassId) (ad ln : Nat → Nat) (iv : Nat → Nat → Int32) (lv : Nat → Nat → Int64) (tt : Int32) (t : Nat) (ht : r_oOut iv tt 4 = 0 → t < 4 ∧ tt = nI t) (k : Int32) (n : Nat) (hn : t < 4 → (m_oUnp iv lv 16 0) 7 t = nI n ∧ n ≤ 6) (kx : Nat) (hkx : r_oOut iv k (nI n) = 0 → kx < n ∧ k = nI kx) : kMi l yX7_letter wX7_letter ({ frames := 2, cells := 0, slots := 0, locals := 51 }) D vwCl (kT gc) 20 (rE gc) [.ref (ad 0), .int tt, .int k] (ad, ln, iv, lv) (ad, ln, m_oLetter iv lv tt, n_oLetter iv lv tt) (r_oLetter iv lv tt t k n kx) := by
  refine ki_start (cc := cX7_letter) (maxL := 6) (ret := (some .int)) (by decide) rfl (Nat.le_of_ble_eq_true rfl) ?_
  intro p9 e9 s m9 below meth c9 A ls hx hb hr hts hown hlocks hml hA hK hP hD hS hl
  have hl : lv_has ls 6 [(0, .ref (ad 0)), (1, .int tt), (2, .int k)] := hl
  have hown : s.vm.findClass "MonitorWaysModel" = some m9.cls := hown
  have hin_X7 : ∀ w ∈ u_ws "MonitorWaysModel" TX7 27, w ∈ wX7_letter := fun w h => tcons (inX7 w h)
  have lk_f57 := hts _ (tcons tw_590)
  have lk_f28 := hts _ (tcons tw_581)
  have lk_f31 := hts _ (tcons tw_582)
  have lk_c109 := hts _ (tcons tw_719)
  refine lv_iload_n hx hb dX7_letter_0 rfl (lv_at hl 1 rfl) ?_
  refine lv_iconst (v := 4) hx hb dX7_letter_1 (by decide) ?_
  refine kr_callSi (As := [.int tt, .int 4]) (rest := []) ⟨hx, hb, hml, hown, hts⟩ (c_oOut l D gc ad ln iv lv tt 4) (cwS 2 hts (goodS (fun _ h => tcons h) tw_659 tw_660 tw_8 tw_661) rfl rfl rfl (by decide +kernel) ⟨Nat.le_of_ble_eq_true rfl, Nat.le_of_ble_eq_true rfl⟩) hK hP hD hS hA rfl hl.1 rfl (Nat.le_of_ble_eq_true rfl) dX7_letter_2 ⟨Nat.le_of_ble_eq_true rfl, Nat.le_of_ble_eq_true rfl⟩ (fun H locs hP hD hS => ?_)
  refine lv_if_eq (tgt := 10) hx hb dX7_letter_5 (by decide) (fun c_1 => ?_) (fun c_1 => ?_)
  · obtain ⟨ht4, htt⟩ := ht c_1
    obtain ⟨hn1, hn6⟩ := hn ht4
    refine lv_aload_n hx hb dX7_letter_10 rfl (lv_at hl 0 rfl) ?_
    refine lv_aload_n hx hb dX7_letter_11 rfl (lv_at hl 0 rfl) ?_
    refine kr_get (C := "MonitorWaysModel") (T := TX7) (N := 27) hx hb hts hin_X7 hown hK hP 0 (by decide) (R_0 _ _ _ _) rfl 16 (by decide) lk_f57 (fun _ h9 => h9) rfl dX7_letter_12 ?_
    refine lv_iconst (v := 0) hx hb dX7_letter_15 (by decide) ?_
    refine kr_callVv (As := [.ref (ad 16), .int 0]) (rest := []) ⟨hx, hb, hml, hown, hts⟩ (c_oUnp l D gc ad ln iv lv 16 0 (Or.inl rfl) (by decide)) (cwV 2 hts (goodV (fun _ h => tcons h) tw_670 tw_672 ts_28 tw_8 tw_673) rfl rfl rfl (by decide +kernel) ⟨Nat.le_of_ble_eq_true rfl, Nat.le_of_ble_eq_true rfl⟩) (kr_recv hK hP 0 (by decide) (R_0 _ _ _ _) rfl) hK hP hD hS hA rfl hl.1 rfl (Nat.le_of_ble_eq_true rfl) dX7_letter_16 ⟨Nat.le_of_ble_eq_true rfl, Nat.le_of_ble_eq_true rfl⟩ (fun H locs hP hD hS => ?_)
    refine lv_iload_n hx hb dX7_letter_19 rfl (lv_at hl 2 rfl) ?_
    refine lv_aload_n hx hb dX7_letter_20 rfl (lv_at hl 0 rfl) ?_
    refine kr_get (C := "MonitorWaysModel") (T := TX7) (N := 27) hx hb hts hin_X7 hown hK hP 0 (by decide) (R_0 _ _ _ _) rfl 7 (by decide) lk_f28 (fun _ h9 => h9) rfl dX7_letter_21 ?_
    refine lv_iload_n hx hb dX7_letter_24 rfl (lv_at hl 1 rfl) ?_
    refine kr_topi (y := nI t) htt ?_
    refine kr_ialdN hx hb hK hP 7 0 (by decide) (R_7 _ _ _ _) rfl (j := t) (by omega) (by decide) dX7_letter_25 ?_
    refine kr_topi (y := nI n) hn1 ?_
    refine kr_callSi (As := [.int k, .int (nI n)]) (rest := []) ⟨hx, hb, hml, hown, hts⟩ (c_oOut l D gc ad ln (m_oUnp iv lv 16 0) (n_oUnp iv lv 16 0) k (nI n)) (cwS 2 hts (goodS (fun _ h => tcons h) tw_659 tw_660 tw_8 tw_661) rfl rfl rfl (by decide +kernel) ⟨Nat.le_of_ble_eq_true rfl, Nat.le_of_ble_eq_true rfl⟩) hK hP hD hS hA rfl hl.1 rfl (Nat.le_of_ble_eq_true rfl) dX7_letter_26 ⟨Nat.le_of_ble_eq_true rfl, Nat.le_of_ble_eq_true rfl⟩ (fun H locs hP hD hS => ?_)
    refine lv_if_eq (tgt := 34) hx hb dX7_letter_29 (by decide) (fun c_2 => ?_) (fun c_2 => ?_)
    · obtain ⟨hkn, hkk⟩ := hkx c_2
      refine lv_aload_n hx hb dX7_letter_34 rfl (lv_at hl 0 rfl) ?_
      refine kr_get (C := "MonitorWaysModel") (T := TX7) (N := 27) hx hb hts hin_X7 hown hK hP 0 (by decide) (R_0 _ _ _ _) rfl 8 (by decide) lk_f31 (fun _ h9 => h9) rfl dX7_letter_35 ?_
      refine lv_iload_n hx hb dX7_letter_38 rfl (lv_at hl 1 rfl) ?_
      refine kr_topi (y := nI t) htt ?_
      refine kr_laldN hx hb hK hP 8 2 (by decide) (R_8 _ _ _ _) rfl (j := t) (by omega) (by decide) dX7_letter_39 ?_
      refine lv_lstore_n (lv' := [(3, .long ((n_oUnp iv lv 16 0) 8 t)), (0, .ref (ad 0)), (1, .int tt), (2, .int k)]) hx hb dX7_letter_40 rfl hl (by decide) rfl (fun ls hl => ?_)
      refine lv_iload_n hx hb dX7_letter_41 rfl (lv_at hl 3 rfl) ?_
      refine kr_topi (y := nI kx) hkk ?_
      refine lv_iconst (v := 1) hx hb dX7_letter_42 (by decide) ?_
      refine lv_iadd hx hb dX7_letter_43 ?_
      refine kr_topi (y := nI (kx + 1)) (nI_add kx 1) ?_
      refine lv_istore (lv' := [(5, .int (nI (kx + 1))), (3, .long ((n_oUnp iv lv 16 0) 8 t)), (0, .ref (ad 0)), (1, .int tt), (2, .int k)]) hx hb dX7_letter_44 hl (by decide) rfl (fun ls hl => ?_)
      refine kr_loop (σ := Nat × Int64) (fun z9 => match z9 with | (i, x) => n - i) (fun z9 H locs ls => match z9 with | (i, x) => (kx + 1 ≤ i ∧ i ≤ n) ∧ (divL (n - i) x = divL (n - (kx + 1)) ((n_oUnp iv lv 16 0) 8 t)) ∧ va_P D vwCl (mW 20 (rE gc) (ad, ln, (m_oUnp iv lv 16 0), (n_oUnp iv lv 16 0))) H ∧ va_D A (mW 20 (rE gc) (ad, ln, (m_oUnp iv lv 16 0), (n_oUnp iv lv 16 0))) ∧ va_S A s.heap H locs ∧ lv_has ls 6 [(0, .ref (ad 0)), (1, .int tt), (3, .long x), (5, .int (nI i))]) 46 (kx + 1, (n_oUnp iv lv 16 0) 8 t) ⟨⟨Nat.le_refl _, by omega⟩, rfl, hP, hD, hS, lv_sub hl [2, 3, 1, 0] rfl⟩ ?_
      intro z9 H locs ls hI ih
      obtain ⟨i, x⟩ := z9
      obtain ⟨hi, heq, hP, hD, hS, hl⟩ := hI
      refine lv_iload hx hb dX7_letter_46 (lv_at hl 3 rfl) ?_
      refine lv_aload_n hx hb dX7_letter_48 rfl (lv_at hl 0 rfl) ?_
      refine kr_get (C := "MonitorWaysModel") (T := TX7) (N := 27) hx hb hts hin_X7 hown hK hP 0 (by decide) (R_0 _ _ _ _) rfl 7 (by decide) lk_f28 (fun _ h9 => h9) rfl dX7_letter_49 ?_
      refine lv_iload_n hx hb dX7_letter_52 rfl (lv_at hl 1 rfl) ?_
      refine kr_topi (y := nI t) htt ?_
      refine kr_ialdN hx hb hK hP 7 0 (by decide) (R_7 _ _ _ _) rfl (j := t) (by omega) (by decide) dX7_letter_53 ?_
      refine kr_topi (y := nI n) hn1 ?_
      refine lv_icmp_ge (tgt := 69) hx hb dX7_letter_54 (by decide) (fun c_3 => ?_) (fun c_3 => ?_)
      · have hie : n = i := by have := (nI_leI (by omega) (by omega)).mp c_3; omega
        subst hie
        rw [Nat.sub_self, divL] at heq
        subst heq
        refine lv_lload_n hx hb dX7_letter_69 rfl (lv_at hl 2 rfl) ?_
        refine lv_ldc2 (v := 12) hx hb hown lk_c109 dX7_letter_70 ?_
        refine lv_lrem hx hb dX7_letter_73 (by decide) ?_
        refine lv_l2i hx hb dX7_letter_74 rfl ?_
        exact kr_iret hx hb hr hlocks hK hP hD hS (by unfold r_oLetter; rw [if_pos c_1, if_pos c_2]) (mem4 (by unfold m_oLetter; rw [if_pos c_1]) (by unfold n_oLetter; rw [if_pos c_1])) dX7_letter_75
      · have hlt : i < n := lt_of_nle (by omega) (by omega) c_3
        refine lv_lload_n hx hb dX7_letter_57 rfl (lv_at hl 2 rfl) ?_
        refine lv_ldc2 (v := 12) hx hb hown lk_c109 dX7_letter_58 ?_
        refine lv_ldiv hx hb dX7_letter_61 (by decide) ?_
        refine lv_lstore_n (lv' := [(3, .long (x / 12)), (0, .ref (ad 0)), (1, .int tt), (5, .int (nI i))]) hx hb dX7_letter_62 rfl hl (by decide) rfl (fun ls hl => ?_)
        refine lv_iinc (v := nI (i + 1)) (lv' := [(5, .int (nI (i + 1))), (3, .long (x / 12)), (0, .ref (ad 0)), (1, .int tt)]) hx hb dX7_letter_63 hl (k := 3) rfl (nI_1 i) (by decide) rfl (fun ls hl => ?_)
        refine lv_goto (tgt := 46) hx hb dX7_letter_66 (by decide) ?_
        exact ih (i + 1, x / 12) H locs ls ⟨⟨by omega, by omega⟩, (divL_s (by omega)).trans heq, hP, hD, hS, lv_sub hl [2, 3, 1, 0] rfl⟩ (by show n - (i + 1) < n - i; omega)
    · refine lv_iconst (v := (-1)) hx hb dX7_letter_32 (by decide) ?_
      exact kr_iret hx hb hr hlocks hK hP hD hS (by unfold r_oLetter; rw [if_pos c_1, if_neg c_2]) (mem4 (by unfold m_oLetter; rw [if_pos c_1]) (by unfold n_oLetter; rw [if_pos c_1])) dX7_letter_33
  · refine lv_iconst (v := (-1)) hx hb dX7_letter_8 (by decide) ?_
    exact kr_iret hx hb hr hlocks hK hP hD hS (by unfold r_oLetter; rw [if_neg c_1]) (mem4 (by unfold m_oLetter; rw [if_neg c_1]) (by unfold n_oLetter; rw [if_neg c_1])) dX7_letter_9
set_option maxHeartbeats 4000000 in
set_option maxRecDepth 100000 in
theorem c_oMeet (l : Launch) (D : va_G) (gc : Nat → ClassId) (ad ln : Nat → Nat) (iv : Nat → Nat → Int32) (lv : Nat → Nat → Int64) (n : Nat) (hn : iv 0 19 = nI n) (hn1 : n ≤ 3001) : kMv l yX7_meet wX7_meet ({ frames := 2, cells := 0, slots := 0, locals := 49 }) D vwCl (kT gc) 20 (rE gc) [.ref (ad 0)] (ad, ln, iv, lv) (ad, ln, m_oMeet iv lv n, n_oMeet iv lv n) := by
  refine kv_start (cc := cX7_meet) (maxL := 4) (by decide) rfl (Nat.le_of_ble_eq_true rfl) ?_
  intro p9 e9 s m9 below meth c9 A ls hx hb hr hts hown hlocks hml hA hK hP hD hS hl
  have hl : lv_has ls 4 [(0, .ref (ad 0))] := hl
  have hown : s.vm.findClass "MonitorWaysModel" = some m9.cls := hown
  have hin_X7 : ∀ w ∈ u_ws "MonitorWaysModel" TX7 27, w ∈ wX7_meet := fun w h => tcons (inX7 w h)
  have lk_f165 := hts _ (tcons tw_593)
  have lk_f60 := hts _ (tcons tw_592)
  refine lv_iconst (v := 5) hx hb dX7_meet_0 (by decide) ?_
  refine lv_aload_n hx hb dX7_meet_1 rfl (lv_at hl 0 rfl) ?_
  refine kr_get (C := "MonitorWaysModel") (T := TX7) (N := 27) hx hb hts hin_X7 hown hK hP 0 (by decide) (R_0 _ _ _ _) rfl 19 (by decide) lk_f165 (fun _ h9 => h9) rfl dX7_meet_2 ?_
  refine kr_topi (y := nI n) hn ?_
  refine lv_imul hx hb dX7_meet_5 ?_
  refine kr_topi (y := nI (5 * n)) (pk_mul 5 n) ?_
  refine lv_istore_n (lv' := [(1, .int (nI (5 * n))), (0, .ref (ad 0))]) hx hb dX7_meet_6 rfl hl (by decide) rfl (fun ls hl => ?_)
  refine lv_aload_n hx hb dX7_meet_7 rfl (lv_at hl 1 rfl) ?_
  refine kr_get (C := "MonitorWaysModel") (T := TX7) (N := 27) hx hb hts hin_X7 hown hK hP 0 (by decide) (R_0 _ _ _ _) rfl 19 (by decide) lk_f165 (fun _ h9 => h9) rfl dX7_meet_8 ?_
  refine kr_topi (y := nI n) hn ?_
  refine lv_sipush (v := 3000) hx hb dX7_meet_11 (by decide) ?_
  refine lv_icmp_le (tgt := 18) hx hb dX7_meet_14 (by decide) (fun c_1 => ?_) (fun c_1 => ?_)
  · have hn3 : n ≤ 3000 := (nI_leI (by omega) (by decide)).mp c_1
    refine lv_aload_n hx hb dX7_meet_18 rfl (lv_at hl 1 rfl) ?_
    refine lv_aload_n hx hb dX7_meet_19 rfl (lv_at hl 1 rfl) ?_
    refine kr_get (C := "MonitorWaysModel") (T := TX7) (N := 27) hx hb hts hin_X7 hown hK hP 0 (by decide) (R_0 _ _ _ _) rfl 18 (by decide) lk_f60 (fun _ h9 => h9) rfl dX7_meet_20 ?_
    refine lv_iload_n hx hb dX7_meet_23 rfl (lv_at hl 0 rfl) ?_
    refine kr_callVv (As := [.ref (ad 17), .int (nI (5 * n))]) (rest := []) ⟨hx, hb, hml, hown, hts⟩ (c_oPack l D gc ad ln iv lv 17 (5 * n) (Or.inr rfl) (by show 5 * n + 5 ≤ 15005; omega)) (cwV 2 hts (goodV (fun _ h => tcons h) tw_564 tw_566 ts_25 tw_8 tw_567) rfl rfl rfl (by decide +kernel) ⟨Nat.le_of_ble_eq_true rfl, Nat.le_of_ble_eq_true rfl⟩) (kr_recv hK hP 0 (by decide) (R_0 _ _ _ _) rfl) hK hP hD hS hA rfl hl.1 rfl (Nat.le_of_ble_eq_true rfl) dX7_meet_24 ⟨Nat.le_of_ble_eq_true rfl, Nat.le_of_ble_eq_true rfl⟩ (fun H locs hP hD hS => ?_)
    refine lv_iconst (v := 0) hx hb dX7_meet_27 (by decide) ?_
    refine lv_istore_n (lv' := [(2, .int 0), (1, .int (nI (5 * n))), (0, .ref (ad 0))]) hx hb dX7_meet_28 rfl hl (by decide) rfl (fun ls hl => ?_)
    refine kr_loop (σ := Nat) (fun z9 => match z9 with | i => n - i) (fun z9 H locs ls => match z9 with | i => (i ≤ n) ∧ (∀ i2, i2 < i → ¬ sameR (n_oPack iv lv 17 (5 * n)) i2 n) ∧ va_P D vwCl (mW 20 (rE gc) (ad, ln, iv, (n_oPack iv lv 17 (5 * n)))) H ∧ va_D A (mW 20 (rE gc) (ad, ln, iv, (n_oPack iv lv 17 (5 * n)))) ∧ va_S A s.heap H locs ∧ lv_has ls 4 [(0, .ref (ad 0)), (1, .int (nI (5 * n))), (2, .int (nI (5 * i)))]) 29 (0) ⟨Nat.zero_le _, (fun i2 h => absurd h (Nat.not_lt_zero _)), hP, hD, hS, lv_sub hl [2, 1, 0] rfl⟩ ?_
    intro z9 H locs ls hI ih
    obtain ⟨i, hx9⟩ : ∃ z, z = z9 := ⟨_, rfl⟩
    subst hx9
    obtain ⟨hi, hno, hP, hD, hS, hl⟩ := hI
    refine lv_iload_n hx hb dX7_meet_29 rfl (lv_at hl 2 rfl) ?_
    refine lv_iload_n hx hb dX7_meet_30 rfl (lv_at hl 1 rfl) ?_
    refine lv_icmp_ge (tgt := 147) hx hb dX7_meet_31 (by decide) (fun c_2 => ?_) (fun c_2 => ?_)
    · have hie : n = i := by have := (nI_leI (a := 5 * n) (b := 5 * i) (by omega) (by omega)).mp c_2; omega
      subst hie
      have hnn : ¬ (3000 < n ∨ ∃ i, i < n ∧ sameR (n_oPack iv lv 17 (5 * n)) i n) := by rintro (h | ⟨i, h1, h2⟩); omega; exact hno i h1 h2
      refine lv_aload_n hx hb dX7_meet_147 rfl (lv_at hl 0 rfl) ?_
      refine lv_dup hx hb dX7_meet_148 rfl ?_
      refine kr_get (C := "MonitorWaysModel") (T := TX7) (N := 27) hx hb hts hin_X7 hown hK hP 0 (by decide) (R_0 _ _ _ _) rfl 19 (by decide) lk_f165 (fun _ h9 => h9) rfl dX7_meet_149 ?_
      refine kr_topi (y := nI n) hn ?_
      refine lv_iconst (v := 1) hx hb dX7_meet_152 (by decide) ?_
      refine lv_iadd hx hb dX7_meet_153 ?_
      refine kr_topi (y := nI (n + 1)) (nI_add n 1) ?_
      refine kr_put (C := "MonitorWaysModel") (T := TX7) (N := 27) hx hb hts hin_X7 tyX7 ok_tyX7 ok_nX7 hown hK hP hD hS 0 (by decide) (fun _ => R_0 _ _ _ _) rfl 19 (by decide) lk_f165 (fun _ h9 => h9) rfl rfl rfl rfl (fun _ => Nat.le_of_ble_eq_true rfl) (fun _ => rfl) dX7_meet_154 (fun H locs hP hD hS => ?_)
      exact kr_vret hx hb hr hlocks hK hP hD hS (mem4 (oMeet_n hnn).symm (by unfold n_oMeet; rw [if_neg (by omega)])) dX7_meet_157
    · have hlt : i < n := by have := lt_of_nle (a := 5 * n) (b := 5 * i) (by omega) (by omega) c_2; omega
      refine lv_aload_n hx hb dX7_meet_34 rfl (lv_at hl 0 rfl) ?_
      refine kr_get (C := "MonitorWaysModel") (T := TX7) (N := 27) hx hb hts hin_X7 hown hK hP 0 (by decide) (R_0 _ _ _ _) rfl 18 (by decide) lk_f60 (fun _ h9 => h9) rfl dX7_meet_35 ?_
      refine lv_iload_n hx hb dX7_meet_38 rfl (lv_at hl 2 rfl) ?_
      refine kr_laldN hx hb hK hP 17 2 (by decide) (R_17 _ _ _ _) rfl (j := (5 * i)) (by omega) (by decide) dX7_meet_39 ?_
      refine lv_aload_n hx hb dX7_meet_40 rfl (lv_at hl 0 rfl) ?_
      refine kr_get (C := "MonitorWaysModel") (T := TX7) (N := 27) hx hb hts hin_X7 hown hK hP 0 (by decide) (R_0 _ _ _ _) rfl 18 (by decide) lk_f60 (fun _ h9 => h9) rfl dX7_meet_41 ?_
      refine lv_iload_n hx hb dX7_meet_44 rfl (lv_at hl 1 rfl) ?_
      refine kr_laldN hx hb hK hP 17 2 (by decide) (R_17 _ _ _ _) rfl (j := (5 * n)) (by omega) (by decide) dX7_meet_45 ?_
      refine W.lcmp hx hb dX7_meet_46 ?_
      refine lv_if_ne (tgt := 94) hx hb dX7_meet_47 (by decide) (fun c_3 => ?_) (fun c_3 => ?_)
      · replace c_3 : ¬ (n_oPack iv lv 17 (5 * n)) 17 (5 * i) = (n_oPack iv lv 17 (5 * n)) 17 (5 * n) := (fun h => c_3 ((lg_cmp_eq _ _).mpr h))
        refine lv_iconst (v := 0) hx hb dX7_meet_94 (by decide) ?_
        refine lv_istore_n (lv' := [(3, .int 0), (0, .ref (ad 0)), (1, .int (nI (5 * n))), (2, .int (nI (5 * i)))]) hx hb dX7_meet_95 rfl hl (by decide) rfl (fun ls hl => ?_)
        refine lv_iload_n hx hb dX7_meet_96 rfl (lv_at hl 0 rfl) ?_
        refine lv_if_eq (tgt := 141) hx hb dX7_meet_97 (by decide) (fun c_4 => ?_) (fun c_4 => absurd (by decide) c_4)
        refine lv_iinc (v := nI (5 * (i + 1))) (lv' := [(2, .int (nI (5 * (i + 1)))), (3, .int 0), (0, .ref (ad 0)), (1, .int (nI (5 * n)))]) hx hb dX7_meet_141 hl (k := 3) rfl (by rw [show 5 * (i + 1) = 5 * i + 5 by omega]; exact nI_add (5 * i) 5) (by decide) rfl (fun ls hl => ?_)
        refine lv_goto (tgt := 29) hx hb dX7_meet_144 (by decide) ?_
        exact ih (i + 1) H locs ls ⟨by omega, (fun i2 h2 => by rcases Nat.lt_or_ge i2 i with q | q; exact hno i2 q; rw [show i2 = i by omega]; exact fun h => c_3 h.1), hP, hD, hS, lv_sub hl [2, 3, 0] rfl⟩ (by show n - (i + 1) < n - i; omega)
      · replace c_3 : (n_oPack iv lv 17 (5 * n)) 17 (5 * i) = (n_oPack iv lv 17 (5 * n)) 17 (5 * n) := (lg_cmp_eq _ _).mp c_3
        refine lv_aload_n hx hb dX7_meet_50 rfl (lv_at hl 0 rfl) ?_
        refine kr_get (C := "MonitorWaysModel") (T := TX7) (N := 27) hx hb hts hin_X7 hown hK hP 0 (by decide) (R_0 _ _ _ _) rfl 18 (by decide) lk_f60 (fun _ h9 => h9) rfl dX7_meet_51 ?_
        refine lv_iload_n hx hb dX7_meet_54 rfl (lv_at hl 2 rfl) ?_
        refine lv_iconst (v := 1) hx hb dX7_meet_55 (by decide) ?_
        refine lv_iadd hx hb dX7_meet_56 ?_
        refine kr_topi (y := nI ((5 * i) + 1)) (nI_add (5 * i) 1) ?_
        refine kr_laldN hx hb hK hP 17 2 (by decide) (R_17 _ _ _ _) rfl (j := ((5 * i) + 1)) (by omega) (by decide) dX7_meet_57 ?_
        refine lv_aload_n hx hb dX7_meet_58 rfl (lv_at hl 0 rfl) ?_
        refine kr_get (C := "MonitorWaysModel") (T := TX7) (N := 27) hx hb hts hin_X7 hown hK hP 0 (by decide) (R_0 _ _ _ _) rfl 18 (by decide) lk_f60 (fun _ h9 => h9) rfl dX7_meet_59 ?_
        refine lv_iload_n hx hb dX7_meet_62 rfl (lv_at hl 1 rfl) ?_
        refine lv_iconst (v := 1) hx hb dX7_meet_63 (by decide) ?_
        refine lv_iadd hx hb dX7_meet_64 ?_
        refine kr_topi (y := nI ((5 * n) + 1)) (nI_add (5 * n) 1) ?_
        refine kr_laldN hx hb hK hP 17 2 (by decide) (R_17 _ _ _ _) rfl (j := ((5 * n) + 1)) (by omega) (by decide) dX7_meet_65 ?_
        refine W.lcmp hx hb dX7_meet_66 ?_
        refine lv_if_ne (tgt := 94) hx hb dX7_meet_67 (by decide) (fun c_5 => ?_) (fun c_5 => ?_)
        · replace c_5 : ¬ (n_oPack iv lv 17 (5 * n)) 17 ((5 * i) + 1) = (n_oPack iv lv 17 (5 * n)) 17 ((5 * n) + 1) := (fun h => c_5 ((lg_cmp_eq _ _).mpr h))
          refine lv_iconst (v := 0) hx hb dX7_meet_94 (by decide) ?_
          refine lv_istore_n (lv' := [(3, .int 0), (0, .ref (ad 0)), (1, .int (nI (5 * n))), (2, .int (nI (5 * i)))]) hx hb dX7_meet_95 rfl hl (by decide) rfl (fun ls hl => ?_)
          refine lv_iload_n hx hb dX7_meet_96 rfl (lv_at hl 0 rfl) ?_
          refine lv_if_eq (tgt := 141) hx hb dX7_meet_97 (by decide) (fun c_6 => ?_) (fun c_6 => absurd (by decide) c_6)
          refine lv_iinc (v := nI (5 * (i + 1))) (lv' := [(2, .int (nI (5 * (i + 1)))), (3, .int 0), (0, .ref (ad 0)), (1, .int (nI (5 * n)))]) hx hb dX7_meet_141 hl (k := 3) rfl (by rw [show 5 * (i + 1) = 5 * i + 5 by omega]; exact nI_add (5 * i) 5) (by decide) rfl (fun ls hl => ?_)
          refine lv_goto (tgt := 29) hx hb dX7_meet_144 (by decide) ?_
          exact ih (i + 1) H locs ls ⟨by omega, (fun i2 h2 => by rcases Nat.lt_or_ge i2 i with q | q; exact hno i2 q; rw [show i2 = i by omega]; exact fun h => c_5 h.2.1), hP, hD, hS, lv_sub hl [2, 3, 0] rfl⟩ (by show n - (i + 1) < n - i; omega)
        · replace c_5 : (n_oPack iv lv 17 (5 * n)) 17 ((5 * i) + 1) = (n_oPack iv lv 17 (5 * n)) 17 ((5 * n) + 1) := (lg_cmp_eq _ _).mp c_5
          refine lv_aload_n hx hb dX7_meet_70 rfl (lv_at hl 0 rfl) ?_
          refine kr_get (C := "MonitorWaysModel") (T := TX7) (N := 27) hx hb hts hin_X7 hown hK hP 0 (by decide) (R_0 _ _ _ _) rfl 18 (by decide) lk_f60 (fun _ h9 => h9) rfl dX7_meet_71 ?_
          refine lv_iload_n hx hb dX7_meet_74 rfl (lv_at hl 2 rfl) ?_
          refine lv_iconst (v := 2) hx hb dX7_meet_75 (by decide) ?_
          refine lv_iadd hx hb dX7_meet_76 ?_
          refine kr_topi (y := nI ((5 * i) + 2)) (nI_add (5 * i) 2) ?_
          refine kr_laldN hx hb hK hP 17 2 (by decide) (R_17 _ _ _ _) rfl (j := ((5 * i) + 2)) (by omega) (by decide) dX7_meet_77 ?_
          refine lv_aload_n hx hb dX7_meet_78 rfl (lv_at hl 0 rfl) ?_
          refine kr_get (C := "MonitorWaysModel") (T := TX7) (N := 27) hx hb hts hin_X7 hown hK hP 0 (by decide) (R_0 _ _ _ _) rfl 18 (by decide) lk_f60 (fun _ h9 => h9) rfl dX7_meet_79 ?_
          refine lv_iload_n hx hb dX7_meet_82 rfl (lv_at hl 1 rfl) ?_
          refine lv_iconst (v := 2) hx hb dX7_meet_83 (by decide) ?_
          refine lv_iadd hx hb dX7_meet_84 ?_
          refine kr_topi (y := nI ((5 * n) + 2)) (nI_add (5 * n) 2) ?_
          refine kr_laldN hx hb hK hP 17 2 (by decide) (R_17 _ _ _ _) rfl (j := ((5 * n) + 2)) (by omega) (by decide) dX7_meet_85 ?_
          refine W.lcmp hx hb dX7_meet_86 ?_
          refine lv_if_ne (tgt := 94) hx hb dX7_meet_87 (by decide) (fun c_7 => ?_) (fun c_7 => ?_)
          · replace c_7 : ¬ (n_oPack iv lv 17 (5 * n)) 17 ((5 * i) + 2) = (n_oPack iv lv 17 (5 * n)) 17 ((5 * n) + 2) := (fun h => c_7 ((lg_cmp_eq _ _).mpr h))
            refine lv_iconst (v := 0) hx hb dX7_meet_94 (by decide) ?_
            refine lv_istore_n (lv' := [(3, .int 0), (0, .ref (ad 0)), (1, .int (nI (5 * n))), (2, .int (nI (5 * i)))]) hx hb dX7_meet_95 rfl hl (by decide) rfl (fun ls hl => ?_)
            refine lv_iload_n hx hb dX7_meet_96 rfl (lv_at hl 0 rfl) ?_
            refine lv_if_eq (tgt := 141) hx hb dX7_meet_97 (by decide) (fun c_8 => ?_) (fun c_8 => absurd (by decide) c_8)
            refine lv_iinc (v := nI (5 * (i + 1))) (lv' := [(2, .int (nI (5 * (i + 1)))), (3, .int 0), (0, .ref (ad 0)), (1, .int (nI (5 * n)))]) hx hb dX7_meet_141 hl (k := 3) rfl (by rw [show 5 * (i + 1) = 5 * i + 5 by omega]; exact nI_add (5 * i) 5) (by decide) rfl (fun ls hl => ?_)
            refine lv_goto (tgt := 29) hx hb dX7_meet_144 (by decide) ?_
            exact ih (i + 1) H locs ls ⟨by omega, (fun i2 h2 => by rcases Nat.lt_or_ge i2 i with q | q; exact hno i2 q; rw [show i2 = i by omega]; exact fun h => c_7 h.2.2.1), hP, hD, hS, lv_sub hl [2, 3, 0] rfl⟩ (by show n - (i + 1) < n - i; omega)
          · replace c_7 : (n_oPack iv lv 17 (5 * n)) 17 ((5 * i) + 2) = (n_oPack iv lv 17 (5 * n)) 17 ((5 * n) + 2) := (lg_cmp_eq _ _).mp c_7
            refine lv_iconst (v := 1) hx hb dX7_meet_90 (by decide) ?_
            refine lv_goto (tgt := 95) hx hb dX7_meet_91 (by decide) ?_
            refine lv_istore_n (lv' := [(3, .int 1), (0, .ref (ad 0)), (1, .int (nI (5 * n))), (2, .int (nI (5 * i)))]) hx hb dX7_meet_95 rfl hl (by decide) rfl (fun ls hl => ?_)
            refine lv_iload_n hx hb dX7_meet_96 rfl (lv_at hl 0 rfl) ?_
            refine lv_if_eq (tgt := 141) hx hb dX7_meet_97 (by decide) (fun c_9 => absurd c_9 (by decide)) (fun c_9 => ?_)
            refine lv_aload_n hx hb dX7_meet_100 rfl (lv_at hl 1 rfl) ?_
            refine kr_get (C := "MonitorWaysModel") (T := TX7) (N := 27) hx hb hts hin_X7 hown hK hP 0 (by decide) (R_0 _ _ _ _) rfl 18 (by decide) lk_f60 (fun _ h9 => h9) rfl dX7_meet_101 ?_
            refine lv_iload_n hx hb dX7_meet_104 rfl (lv_at hl 3 rfl) ?_
            refine lv_iconst (v := 3) hx hb dX7_meet_105 (by decide) ?_
            refine lv_iadd hx hb dX7_meet_106 ?_
            refine kr_topi (y := nI ((5 * i) + 3)) (nI_add (5 * i) 3) ?_
            refine kr_laldN hx hb hK hP 17 2 (by decide) (R_17 _ _ _ _) rfl (j := ((5 * i) + 3)) (by omega) (by decide) dX7_meet_107 ?_
            refine lv_aload_n hx hb dX7_meet_108 rfl (lv_at hl 1 rfl) ?_
            refine kr_get (C := "MonitorWaysModel") (T := TX7) (N := 27) hx hb hts hin_X7 hown hK hP 0 (by decide) (R_0 _ _ _ _) rfl 18 (by decide) lk_f60 (fun _ h9 => h9) rfl dX7_meet_109 ?_
            refine lv_iload_n hx hb dX7_meet_112 rfl (lv_at hl 2 rfl) ?_
            refine lv_iconst (v := 3) hx hb dX7_meet_113 (by decide) ?_
            refine lv_iadd hx hb dX7_meet_114 ?_
            refine kr_topi (y := nI ((5 * n) + 3)) (nI_add (5 * n) 3) ?_
            refine kr_laldN hx hb hK hP 17 2 (by decide) (R_17 _ _ _ _) rfl (j := ((5 * n) + 3)) (by omega) (by decide) dX7_meet_115 ?_
            refine W.lcmp hx hb dX7_meet_116 ?_
            refine lv_if_ne (tgt := 141) hx hb dX7_meet_117 (by decide) (fun c_10 => ?_) (fun c_10 => ?_)
            · replace c_10 : ¬ (n_oPack iv lv 17 (5 * n)) 17 ((5 * i) + 3) = (n_oPack iv lv 17 (5 * n)) 17 ((5 * n) + 3) := (fun h => c_10 ((lg_cmp_eq _ _).mpr h))
              refine lv_iinc (v := nI (5 * (i + 1))) (lv' := [(2, .int (nI (5 * (i + 1)))), (3, .int 1), (0, .ref (ad 0)), (1, .int (nI (5 * n)))]) hx hb dX7_meet_141 hl (k := 3) rfl (by rw [show 5 * (i + 1) = 5 * i + 5 by omega]; exact nI_add (5 * i) 5) (by decide) rfl (fun ls hl => ?_)
              refine lv_goto (tgt := 29) hx hb dX7_meet_144 (by decide) ?_
              exact ih (i + 1) H locs ls ⟨by omega, (fun i2 h2 => by rcases Nat.lt_or_ge i2 i with q | q; exact hno i2 q; rw [show i2 = i by omega]; exact fun h => c_10 h.2.2.2.1), hP, hD, hS, lv_sub hl [2, 3, 0] rfl⟩ (by show n - (i + 1) < n - i; omega)
            · replace c_10 : (n_oPack iv lv 17 (5 * n)) 17 ((5 * i) + 3) = (n_oPack iv lv 17 (5 * n)) 17 ((5 * n) + 3) := (lg_cmp_eq _ _).mp c_10
              refine lv_aload_n hx hb dX7_meet_120 rfl (lv_at hl 1 rfl) ?_
              refine kr_get (C := "MonitorWaysModel") (T := TX7) (N := 27) hx hb hts hin_X7 hown hK hP 0 (by decide) (R_0 _ _ _ _) rfl 18 (by decide) lk_f60 (fun _ h9 => h9) rfl dX7_meet_121 ?_
              refine lv_iload_n hx hb dX7_meet_124 rfl (lv_at hl 3 rfl) ?_
              refine lv_iconst (v := 4) hx hb dX7_meet_125 (by decide) ?_
              refine lv_iadd hx hb dX7_meet_126 ?_
              refine kr_topi (y := nI ((5 * i) + 4)) (nI_add (5 * i) 4) ?_
              refine kr_laldN hx hb hK hP 17 2 (by decide) (R_17 _ _ _ _) rfl (j := ((5 * i) + 4)) (by omega) (by decide) dX7_meet_127 ?_
              refine lv_aload_n hx hb dX7_meet_128 rfl (lv_at hl 1 rfl) ?_
              refine kr_get (C := "MonitorWaysModel") (T := TX7) (N := 27) hx hb hts hin_X7 hown hK hP 0 (by decide) (R_0 _ _ _ _) rfl 18 (by decide) lk_f60 (fun _ h9 => h9) rfl dX7_meet_129 ?_
              refine lv_iload_n hx hb dX7_meet_132 rfl (lv_at hl 2 rfl) ?_
              refine lv_iconst (v := 4) hx hb dX7_meet_133 (by decide) ?_
              refine lv_iadd hx hb dX7_meet_134 ?_
              refine kr_topi (y := nI ((5 * n) + 4)) (nI_add (5 * n) 4) ?_
              refine kr_laldN hx hb hK hP 17 2 (by decide) (R_17 _ _ _ _) rfl (j := ((5 * n) + 4)) (by omega) (by decide) dX7_meet_135 ?_
              refine W.lcmp hx hb dX7_meet_136 ?_
              refine lv_if_ne (tgt := 141) hx hb dX7_meet_137 (by decide) (fun c_11 => ?_) (fun c_11 => ?_)
              · replace c_11 : ¬ (n_oPack iv lv 17 (5 * n)) 17 ((5 * i) + 4) = (n_oPack iv lv 17 (5 * n)) 17 ((5 * n) + 4) := (fun h => c_11 ((lg_cmp_eq _ _).mpr h))
                refine lv_iinc (v := nI (5 * (i + 1))) (lv' := [(2, .int (nI (5 * (i + 1)))), (3, .int 1), (0, .ref (ad 0)), (1, .int (nI (5 * n)))]) hx hb dX7_meet_141 hl (k := 3) rfl (by rw [show 5 * (i + 1) = 5 * i + 5 by omega]; exact nI_add (5 * i) 5) (by decide) rfl (fun ls hl => ?_)
                refine lv_goto (tgt := 29) hx hb dX7_meet_144 (by decide) ?_
                exact ih (i + 1) H locs ls ⟨by omega, (fun i2 h2 => by rcases Nat.lt_or_ge i2 i with q | q; exact hno i2 q; rw [show i2 = i by omega]; exact fun h => c_11 h.2.2.2.2), hP, hD, hS, lv_sub hl [2, 3, 0] rfl⟩ (by show n - (i + 1) < n - i; omega)
              · replace c_11 : (n_oPack iv lv 17 (5 * n)) 17 ((5 * i) + 4) = (n_oPack iv lv 17 (5 * n)) 17 ((5 * n) + 4) := (lg_cmp_eq _ _).mp c_11
                have hs : sameR (n_oPack iv lv 17 (5 * n)) i n := ⟨c_3, c_5, c_7, c_10, c_11⟩
                exact kr_vret hx hb hr hlocks hK hP hD hS (mem4 (oMeet_y (Or.inr ⟨i, hlt, hs⟩)).symm (by unfold n_oMeet; rw [if_neg (by omega)])) dX7_meet_140
  · have hn3 : 3000 < n := lt_of_nle (by omega) (by decide) c_1
    exact kr_vret hx hb hr hlocks hK hP hD hS (mem4 (oMeet_y (Or.inl hn3)).symm (by unfold n_oMeet; rw [if_pos hn3])) dX7_meet_17
