def cfB (m : Nat → Nat → Int32) : Nat → Nat → Nat → Int32
  | 0 => m
  | t + 1 => if r_aEnded (cfB m t) 1 t = 0 then up2 (cfB m t) 37 t 1 else cfB m t
def cfA (m : Nat → Nat → Int32) : Nat → Int32
  | 0 => 1
  | t + 1 => if r_aEnded (cfB m t) 1 t = 0 then 0 else cfA m t
theorem cfB_row {m : Nat → Nat → Int32} {a : Nat} (h : a ≠ 37) : ∀ t, cfB m t a = m a
  | 0 => rfl
  | t + 1 => by
    rw [cfB]
    split
    · rw [up2_c h, cfB_row h t]
    · exact cfB_row h t
def cf2 (m : Nat → Nat → Int32) : Nat → Nat → Int32 := up2 (cfB m 4) 36 4 ((cfB m 4 36 4) + 1)
def cf3 (m : Nat → Nat → Int32) : Nat → Nat → Int32 := if cfA m 4 = 0 then cf2 m else up2 (cf2 m) 36 5 ((cf2 m 36 5) + 1)
/-- noteFinal -/
noncomputable def fiM (ln : Nat → Nat) (iv : Nat → Nat → Int32) (lv : Nat → Nat → Int64) (f : Nat) : KM2 := noM ln (cf3 iv) lv (r_aOutc (cf3 iv) 1) f
theorem cf3_10 {m : Nat → Nat → Int32} : cf3 m 36 10 = m 36 10 := by
  unfold cf3 cf2
  split
  · rw [up2_k (by decide), cfB_row (by decide)]
  · rw [up2_k (by decide), up2_k (by decide), cfB_row (by decide)]
set_option maxHeartbeats 4000000 in
set_option maxRecDepth 100000 in
theorem c_hFin (l : Launch) (D : va_G) (gc : Nat → ClassId) (ad ln : Nat → Nat) (iv : Nat → Nat → Int32) (lv : Nat → Nat → Int64) (f g : Nat) (hok : okO2 ln iv f g) : kMvX l yX3_noteFinal wX3_noteFinal ({ frames := 3, cells := cA (fiM ln iv lv f).1 - cA ln, slots := sA (fiM ln iv lv f).1 - sA ln, locals := 160 }) D vwCl (kT gc) 42 (kE gc) [.ref (ad 36)] (ad, ln, iv, lv) (fiM ln iv lv f) := by
  refine kvX_start (cc := cX3_noteFinal) (maxL := 3) (by decide) rfl (Nat.le_of_ble_eq_true rfl) ?_
  intro p9 e9 s m9 below meth c9 A ls hx hb hr hts hown hlocks hml hA hK hP hD hS hl
  obtain ⟨M0, hM0⟩ : ∃ z : KM, z = (ad, ln, iv, lv) := ⟨_, rfl⟩
  rw [← hM0]
  have hag : ∀ c, c < 39 → ad c = M0.1 c := fun c _ => by rw [hM0]
  have hl : lv_has ls 3 [(0, .ref (ad 36))] := hl
  have hown : s.vm.findClass "MonitorWays$Search" = some m9.cls := hown
  have hin_X3 : ∀ w ∈ u_ws "MonitorWays$Search" TX3 11, w ∈ wX3_noteFinal := fun w h => tcons (inX3 w h)
  have lk_f38 := hts _ (tcons tw_173)
  have lk_f41 := hts _ (tcons tw_175)
  have lk_f26 := hts _ (tcons tw_179)
  have lk_f9 := hts _ (tcons tw_165)
  refine lv_iconst (v := 1) hx hb dX3_noteFinal_0 (by decide) ?_
  refine lv_istore_n (lv' := [(1, .int 1), (0, .ref (ad 36))]) hx hb dX3_noteFinal_1 rfl hl (by decide) rfl (fun ls hl => ?_)
  refine lv_iconst (v := 0) hx hb dX3_noteFinal_2 (by decide) ?_
  refine lv_istore_n (lv' := [(2, .int 0), (1, .int 1), (0, .ref (ad 36))]) hx hb dX3_noteFinal_3 rfl hl (by decide) rfl (fun ls hl => ?_)
  refine kr_loop (σ := Nat) (fun z9 => match z9 with | t => 4 - t) (fun z9 H locs ls => match z9 with | t => (t ≤ 4) ∧ va_P D vwCl (mW 42 (kE gc) (ad, ln, (cfB iv t), lv)) H ∧ va_D A (mW 42 (kE gc) (ad, ln, (cfB iv t), lv)) ∧ va_S A s.heap H locs ∧ lv_has ls 3 [(0, .ref (ad 36)), (1, .int (cfA iv t)), (2, .int (nI t))]) 4 (0) ⟨Nat.zero_le _, hP, hD, hS, lv_sub hl [2, 1, 0] rfl⟩ ?_
  intro z9 H locs ls hI ih
  obtain ⟨t, hx9⟩ : ∃ z, z = z9 := ⟨_, rfl⟩
  subst hx9
  obtain ⟨ht, hP, hD, hS, hl⟩ := hI
  refine lv_iload_n hx hb dX3_noteFinal_4 rfl (lv_at hl 2 rfl) ?_
  refine lv_iconst (v := 4) hx hb dX3_noteFinal_5 (by decide) ?_
  refine lv_icmp_ge (tgt := 35) hx hb dX3_noteFinal_6 (by decide) (fun c_1 => ?_) (fun c_1 => ?_)
  · have hte : 4 = t := by have := (nI_leI (a := 4) (by decide) (by omega)).mp c_1; omega
    subst hte
    refine lv_aload_n hx hb dX3_noteFinal_35 rfl (lv_at hl 0 rfl) ?_
    refine lv_dup hx hb dX3_noteFinal_36 rfl ?_
    refine kr_get (C := "MonitorWays$Search") (T := TX3) (N := 11) hx hb hts hin_X3 hown hK hP 36 (by decide) (E_srch _ _ _ _) rfl 4 (by decide) lk_f38 (fun _ h9 => h9) rfl dX3_noteFinal_37 ?_
    refine lv_iconst (v := 1) hx hb dX3_noteFinal_40 (by decide) ?_
    refine lv_iadd hx hb dX3_noteFinal_41 ?_
    refine kr_put (C := "MonitorWays$Search") (T := TX3) (N := 11) hx hb hts hin_X3 tyX3 ok_tyX3 ok_nX3 hown hK hP hD hS 36 (by decide) (fun _ => E_srch _ _ _ _) rfl 4 (by decide) lk_f38 (fun _ h9 => h9) rfl rfl rfl rfl (fun _ => Nat.le_of_ble_eq_true rfl) (fun _ => rfl) dX3_noteFinal_42 (fun H locs hP hD hS => ?_)
    have hP : va_P D vwCl (mW 42 (kE gc) (ad, ln, (cf2 iv), lv)) H := hP
    have hD : va_D A (mW 42 (kE gc) (ad, ln, (cf2 iv), lv)) := hD
    refine lv_iload_n hx hb dX3_noteFinal_45 rfl (lv_at hl 1 rfl) ?_
    refine kr_ternM (M := 59) (cnd := cfA iv 4 = 0) (ma := (cf2 iv)) (mb := (up2 (cf2 iv) 36 5 (((cf2 iv) 36 5) + 1))) (D := D) (cl := vwCl) (rest := []) (n := 42) (E := (kE gc)) (ad := ad) (ln := ln) (lv := lv) (A := A) (H0 := s.heap) (fun ja jb => ?_) (fun H locs hP hD hS => ?_)
    · refine lv_if_eq (tgt := 59) hx hb dX3_noteFinal_46 (by decide) (fun c_2 => ?_) (fun c_2 => ?_)
      · exact ja c_2 H locs hP hD hS
      · refine lv_aload_n hx hb dX3_noteFinal_49 rfl (lv_at hl 0 rfl) ?_
        refine lv_dup hx hb dX3_noteFinal_50 rfl ?_
        refine kr_get (C := "MonitorWays$Search") (T := TX3) (N := 11) hx hb hts hin_X3 hown hK hP 36 (by decide) (E_srch _ _ _ _) rfl 5 (by decide) lk_f41 (fun _ h9 => h9) rfl dX3_noteFinal_51 ?_
        refine lv_iconst (v := 1) hx hb dX3_noteFinal_54 (by decide) ?_
        refine lv_iadd hx hb dX3_noteFinal_55 ?_
        refine kr_put (C := "MonitorWays$Search") (T := TX3) (N := 11) hx hb hts hin_X3 tyX3 ok_tyX3 ok_nX3 hown hK hP hD hS 36 (by decide) (fun _ => E_srch _ _ _ _) rfl 5 (by decide) lk_f41 (fun _ h9 => h9) rfl rfl rfl rfl (fun _ => Nat.le_of_ble_eq_true rfl) (fun _ => rfl) dX3_noteFinal_56 (fun H locs hP hD hS => ?_)
        exact jb c_2 H locs hP hD hS
    have hP : va_P D vwCl (mW 42 (kE gc) (ad, ln, (cf3 iv), lv)) H := hP
    have hD : va_D A (mW 42 (kE gc) (ad, ln, (cf3 iv), lv)) := hD
    refine lv_aload_n hx hb dX3_noteFinal_59 rfl (lv_at hl 0 rfl) ?_
    refine lv_aload_n hx hb dX3_noteFinal_60 rfl (lv_at hl 0 rfl) ?_
    refine kr_get (C := "MonitorWays$Search") (T := TX3) (N := 11) hx hb hts hin_X3 hown hK hP 36 (by decide) (E_srch _ _ _ _) rfl 7 (by decide) lk_f26 (fun _ h9 => h9) rfl dX3_noteFinal_61 ?_
    refine kr_callVl (As := []) (rest := [.ref (ad 36)]) ⟨hx, hb, hml, hown, hts⟩ (c_aOutc l D gc ad ln (cf3 iv) lv 1 (by decide)) (cwV 0 hts (goodV (fun _ h => tcons h) tw_509 tw_510 tw_511 tw_3 tw_512) rfl rfl rfl (by decide +kernel) ⟨Nat.le_of_ble_eq_true rfl, Nat.le_of_ble_eq_true rfl⟩) (kr_recv hK hP (14 + 1) (by omega) (E_mach (by decide) _ _ _ _) rfl) hK hP hD hS hA rfl hl.1 rfl (Nat.le_of_ble_eq_true rfl) dX3_noteFinal_64 ⟨by (try dsimp only [rX, fiM]) <;> (try unfold fiM) <;> (try dsimp only) <;> omega, by (try dsimp only [rX, fiM]) <;> (try unfold fiM) <;> (try dsimp only) <;> omega⟩ (fun H locs hP hD hS => ?_)
    refine kr_callVvX (As := [.long (r_aOutc (cf3 iv) 1)]) (rest := []) ⟨hx, hb, hml, hown, hts⟩ (c_noteX l D gc ad ln (cf3 iv) lv (r_aOutc (cf3 iv) 1) f g ⟨cf3_10.trans hok.1, hok.2⟩) (cwV 1 hts (goodV (fun _ h => tcons h) tw_519 tw_521 ts_22 tw_6 tw_522) rfl rfl rfl (by decide +kernel) ⟨Nat.le_of_ble_eq_true rfl, Nat.le_of_ble_eq_true rfl⟩) (kr_recv hK hP 36 (by decide) (E_srch _ _ _ _) rfl) hK hP hD hS hA rfl hl.1 rfl (Nat.le_of_ble_eq_true rfl) dX3_noteFinal_67 ⟨by (try dsimp only [rX, fiM]) <;> (try unfold fiM) <;> (try dsimp only) <;> omega, by (try dsimp only [rX, fiM]) <;> (try unfold fiM) <;> (try dsimp only) <;> omega⟩ (fun ad1 H locs hag1 hP hD hS => ?_)
    have eq0 : ad 36 = ad1 36 := (hag1 36 (by decide)).symm
    rw [eq0] at hl
    have hag : ∀ c, c < 39 → ad1 c = M0.1 c := fun c hc => (hag1 c hc).trans (hag c hc)
    clear eq0
    obtain ⟨ad, had⟩ : ∃ z : Nat → Nat, z = ad1 := ⟨_, rfl⟩
    rw [← had] at hP hD hl hag
    refine W_room (cells' := cA (fiM ln iv lv f).1 - cA ln) (slots' := sA (fiM ln iv lv f).1 - sA ln) (Nat.zero_add _) (Nat.zero_add _) ?_
    exact kr_vretX (M := M0) hx hb hr hlocks hK hP hD hS rfl hag dX3_noteFinal_70
  · have ht4 : t < 4 := lt_of_nle (a := 4) (by decide) (by omega) c_1
    refine lv_aload_n hx hb dX3_noteFinal_9 rfl (lv_at hl 0 rfl) ?_
    refine kr_get (C := "MonitorWays$Search") (T := TX3) (N := 11) hx hb hts hin_X3 hown hK hP 36 (by decide) (E_srch _ _ _ _) rfl 7 (by decide) lk_f26 (fun _ h9 => h9) rfl dX3_noteFinal_10 ?_
    refine lv_iload_n hx hb dX3_noteFinal_13 rfl (lv_at hl 2 rfl) ?_
    refine kr_callVi (As := [.int (nI t)]) (rest := []) ⟨hx, hb, hml, hown, hts⟩ (c_aEnded l D gc ad ln (cfB iv t) lv 1 t (by decide) (by omega)) (cwV 1 hts (goodV (fun _ h => tcons h) tw_508 tw_281 tw_282 tw_3 tw_283) rfl rfl rfl (by decide +kernel) ⟨Nat.le_of_ble_eq_true rfl, Nat.le_of_ble_eq_true rfl⟩) (kr_recv hK hP (14 + 1) (by omega) (E_mach (by decide) _ _ _ _) rfl) hK hP hD hS hA rfl hl.1 rfl (Nat.le_of_ble_eq_true rfl) dX3_noteFinal_14 ⟨by (try dsimp only [rX, fiM]) <;> (try unfold fiM) <;> (try dsimp only) <;> omega, by (try dsimp only [rX, fiM]) <;> (try unfold fiM) <;> (try dsimp only) <;> omega⟩ (fun H locs hP hD hS => ?_)
    refine lv_if_ne (tgt := 29) hx hb dX3_noteFinal_17 (by decide) (fun c_3 => ?_) (fun c_3 => ?_)
    · refine lv_iinc (v := nI (t + 1)) (lv' := [(2, .int (nI (t + 1))), (0, .ref (ad 36)), (1, .int (cfA iv t))]) hx hb dX3_noteFinal_29 hl (k := 2) rfl (nI_1 t) (by decide) rfl (fun ls hl => ?_)
      refine lv_goto (tgt := 4) hx hb dX3_noteFinal_32 (by decide) ?_
      have e1 : cfA iv t = cfA iv (t + 1) := by rw [cfA, if_neg c_3]
      have e2 : (cfB iv t) = cfB iv (t + 1) := by rw [cfB, if_neg c_3]
      rw [e1] at hl
      rw [e2] at hP hD
      exact ih (t + 1) H locs ls ⟨by omega, hP, hD, hS, lv_sub hl [1, 2, 0] rfl⟩ (by show 4 - (t + 1) < 4 - t; omega)
    · refine lv_aload_n hx hb dX3_noteFinal_20 rfl (lv_at hl 0 rfl) ?_
      refine kr_get (C := "MonitorWays$Search") (T := TX3) (N := 11) hx hb hts hin_X3 hown hK hP 36 (by decide) (E_srch _ _ _ _) rfl 0 (by decide) lk_f9 (fun _ h9 => h9) rfl dX3_noteFinal_21 ?_
      refine lv_iload_n hx hb dX3_noteFinal_24 rfl (lv_at hl 2 rfl) ?_
      refine lv_iconst (v := 1) hx hb dX3_noteFinal_25 (by decide) ?_
      refine kr_zastN hx hb hK hP hD hS 37 1 (by decide) (fun _ => E_blk _ _ _ _) rfl (j := t) (by omega) (by decide) (by decide) dX3_noteFinal_26 (fun H locs hP hD hS => ?_)
      refine lv_iconst (v := 0) hx hb dX3_noteFinal_27 (by decide) ?_
      refine lv_istore_n (lv' := [(1, .int 0), (0, .ref (ad 36)), (2, .int (nI t))]) hx hb dX3_noteFinal_28 rfl hl (by decide) rfl (fun ls hl => ?_)
      refine lv_iinc (v := nI (t + 1)) (lv' := [(2, .int (nI (t + 1))), (1, .int 0), (0, .ref (ad 36))]) hx hb dX3_noteFinal_29 hl (k := 2) rfl (nI_1 t) (by decide) rfl (fun ls hl => ?_)
      refine lv_goto (tgt := 4) hx hb dX3_noteFinal_32 (by decide) ?_
      have e1 : (0 : Int32) = cfA iv (t + 1) := by rw [cfA, if_pos c_3]
      have e2 : (up2 (cfB iv t) 37 t 1) = cfB iv (t + 1) := by rw [cfB, if_pos c_3]
      rw [e1] at hl
      rw [e2] at hP hD
      exact ih (t + 1) H locs ls ⟨by omega, hP, hD, hS, lv_sub hl [2, 1, 0] rfl⟩ (by show 4 - (t + 1) < 4 - t; omega)
