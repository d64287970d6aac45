def fsR (x : RM) : RM := (m_oFirst (m_oForget x.1), n_oFirst (m_oForget x.1) x.2)
noncomputable def eI (x : RM) : Nat → RM
  | 0 => meR (fsR x)
  | j + 1 => goR j (eI x j)
/-- explore goes through J states -/
def okE (x : RM) (J : Nat) : Prop := okN (fsR x).1 ∧ (∀ j, j ≤ J → okN (eI x j).1) ∧ (∀ j, j < J → j < nS (eI x j).1 ∧ nS (eI x j).1 ≤ 3000 ∧ okGo j (eI x j)) ∧ ¬ (J < nS (eI x J).1 ∧ nS (eI x J).1 ≤ 3000) ∧ J ≤ 3001
noncomputable def r_oExplore (x : RM) (J : Nat) : Int32 := if 3000 < nI (nS (eI x J).1) then -2 else (eI x J).1 0 23
noncomputable def exR (x : RM) (J : Nat) : RM := if 3000 < nI (nS (eI x J).1) then (m_oForget (eI x J).1, (eI x J).2) else eI x J
set_option maxHeartbeats 4000000 in
set_option maxRecDepth 100000 in
theorem c_oExplore (l : Launch) (D : va_G) (gc : Nat → ClassId) (ad ln : Nat → Nat) (iv : Nat → Nat → Int32) (lv : Nat → Nat → Int64) (J : Nat) (hok : okE (iv, lv) J) : kMi l yX7_explore wX7_explore ({ frames := 7, cells := 0, slots := 0, locals := 160 }) D vwCl (kT gc) 20 (rE gc) [.ref (ad 0)] (ad, ln, iv, lv) (ad, ln, (exR (iv, lv) J).1, (exR (iv, lv) J).2) (r_oExplore (iv, lv) J) := by
  refine ki_start (cc := cX7_explore) (maxL := 2) (ret := (some .int)) (by decide) rfl (Nat.le_of_ble_eq_true rfl) ?_
  intro p9 e9 s m9 below meth c9 A ls hx hb hr hts hown hlocks hml hA hK hP hD hS hl
  have hl : lv_has ls 2 [(0, .ref (ad 0))] := hl
  have hown : s.vm.findClass "MonitorWaysModel" = some m9.cls := hown
  have hin_X7 : ∀ w ∈ u_ws "MonitorWaysModel" TX7 27, w ∈ wX7_explore := fun w h => tcons (inX7 w h)
  have lk_f165 := hts _ (tcons tw_593)
  have lk_f152 := hts _ (tcons tw_597)
  obtain ⟨h00, hN, hS1, hE, hJ3⟩ := hok
  refine lv_aload_n hx hb dX7_explore_0 rfl (lv_at hl 0 rfl) ?_
  refine kr_callVv (As := []) (rest := []) ⟨hx, hb, hml, hown, hts⟩ (c_oForget l D gc ad ln iv lv ) (cwV 0 hts (goodV (fun _ h => tcons h) tw_662 tw_664 ts_27 tw_8 tw_665) rfl rfl rfl (by decide +kernel) ⟨Nat.le_of_ble_eq_true rfl, Nat.le_of_ble_eq_true rfl⟩) (kr_recv hK hP 0 (by decide) (R_0 _ _ _ _) rfl) hK hP hD hS hA rfl hl.1 rfl (Nat.le_of_ble_eq_true rfl) dX7_explore_1 ⟨Nat.le_of_ble_eq_true rfl, Nat.le_of_ble_eq_true rfl⟩ (fun H locs hP hD hS => ?_)
  refine lv_aload_n hx hb dX7_explore_4 rfl (lv_at hl 0 rfl) ?_
  refine kr_callVv (As := []) (rest := []) ⟨hx, hb, hml, hown, hts⟩ (c_oFirst l D gc ad ln (m_oForget iv ) lv ) (cwV 0 hts (goodV (fun _ h => tcons h) tw_560 tw_562 ts_24 tw_8 tw_563) rfl rfl rfl (by decide +kernel) ⟨Nat.le_of_ble_eq_true rfl, Nat.le_of_ble_eq_true rfl⟩) (kr_recv hK hP 0 (by decide) (R_0 _ _ _ _) rfl) hK hP hD hS hA rfl hl.1 rfl (Nat.le_of_ble_eq_true rfl) dX7_explore_5 ⟨Nat.le_of_ble_eq_true rfl, Nat.le_of_ble_eq_true rfl⟩ (fun H locs hP hD hS => ?_)
  have hP : va_P D vwCl (mW 20 (rE gc) (ad, ln, (fsR (iv, lv)).1, (fsR (iv, lv)).2)) H := hP
  have hD : va_D A (mW 20 (rE gc) (ad, ln, (fsR (iv, lv)).1, (fsR (iv, lv)).2)) := hD
  refine lv_aload_n hx hb dX7_explore_8 rfl (lv_at hl 0 rfl) ?_
  refine kr_callVv (As := []) (rest := []) ⟨hx, hb, hml, hown, hts⟩ (c_oMeet l D gc ad ln (fsR (iv, lv)).1 (fsR (iv, lv)).2 (nS (fsR (iv, lv)).1) h00.1 h00.2) (cwV 0 hts (goodV (fun _ h => tcons h) tw_777 tw_779 ts_47 tw_8 tw_780) rfl rfl rfl (by decide +kernel) ⟨Nat.le_of_ble_eq_true rfl, Nat.le_of_ble_eq_true rfl⟩) (kr_recv hK hP 0 (by decide) (R_0 _ _ _ _) rfl) hK hP hD hS hA rfl hl.1 rfl (Nat.le_of_ble_eq_true rfl) dX7_explore_9 ⟨Nat.le_of_ble_eq_true rfl, Nat.le_of_ble_eq_true rfl⟩ (fun H locs hP hD hS => ?_)
  have hP : va_P D vwCl (mW 20 (rE gc) (ad, ln, (eI (iv, lv) 0).1, (eI (iv, lv) 0).2)) H := hP
  have hD : va_D A (mW 20 (rE gc) (ad, ln, (eI (iv, lv) 0).1, (eI (iv, lv) 0).2)) := hD
  refine lv_iconst (v := 0) hx hb dX7_explore_12 (by decide) ?_
  refine lv_istore_n (lv' := [(1, .int 0), (0, .ref (ad 0))]) hx hb dX7_explore_13 rfl hl (by decide) rfl (fun ls hl => ?_)
  refine kr_loop (σ := Nat) (fun z9 => match z9 with | j => J - j) (fun z9 H locs ls => match z9 with | j => (j ≤ J) ∧ va_P D vwCl (mW 20 (rE gc) (ad, ln, (eI (iv, lv) j).1, (eI (iv, lv) j).2)) H ∧ va_D A (mW 20 (rE gc) (ad, ln, (eI (iv, lv) j).1, (eI (iv, lv) j).2)) ∧ va_S A s.heap H locs ∧ lv_has ls 2 [(0, .ref (ad 0)), (1, .int (nI j))]) 14 (0) ⟨Nat.zero_le _, hP, hD, hS, lv_sub hl [1, 0] rfl⟩ ?_
  intro z9 H locs ls hI ih
  obtain ⟨j, hx9⟩ : ∃ z, z = z9 := ⟨_, rfl⟩
  subst hx9
  obtain ⟨hj, hP, hD, hS, hl⟩ := hI
  refine lv_iload_n hx hb dX7_explore_14 rfl (lv_at hl 1 rfl) ?_
  refine lv_aload_n hx hb dX7_explore_15 rfl (lv_at hl 0 rfl) ?_
  refine kr_get (C := "MonitorWaysModel") (T := TX7) (N := 27) hx hb hts hin_X7 hown hK hP 0 (by decide) (R_0 _ _ _ _) rfl 19 (by decide) lk_f165 (fun _ h9 => h9) rfl dX7_explore_16 ?_
  refine kr_topi (y := nI (nS (eI (iv, lv) j).1)) (hN j hj).1 ?_
  refine lv_icmp_ge (tgt := 43) hx hb dX7_explore_19 (by decide) (fun c_1 => ?_) (fun c_1 => ?_)
  · have hN1 := (hN j hj).2
    have q0 : ¬ (j < nS (eI (iv, lv) j).1 ∧ nS (eI (iv, lv) j).1 ≤ 3000) := by have := (nI_leI (by omega) (by omega)).mp c_1; omega
    have hjJ : J = j := by rcases Nat.lt_or_ge j J with h | h; exact absurd ⟨(hS1 j h).1, (hS1 j h).2.1⟩ q0; omega
    subst hjJ
    refine lv_aload_n hx hb dX7_explore_43 rfl (lv_at hl 0 rfl) ?_
    refine kr_get (C := "MonitorWaysModel") (T := TX7) (N := 27) hx hb hts hin_X7 hown hK hP 0 (by decide) (R_0 _ _ _ _) rfl 19 (by decide) lk_f165 (fun _ h9 => h9) rfl dX7_explore_44 ?_
    refine kr_topi (y := nI (nS (eI (iv, lv) J).1)) (hN J (Nat.le_refl J)).1 ?_
    refine lv_sipush (v := 3000) hx hb dX7_explore_47 (by decide) ?_
    refine lv_icmp_gt (tgt := 58) hx hb dX7_explore_50 (by decide) (fun c_2 => ?_) (fun c_2 => ?_)
    · refine lv_aload_n hx hb dX7_explore_58 rfl (lv_at hl 0 rfl) ?_
      refine kr_callVv (As := []) (rest := []) ⟨hx, hb, hml, hown, hts⟩ (c_oForget l D gc ad ln (eI (iv, lv) J).1 (eI (iv, lv) J).2 ) (cwV 0 hts (goodV (fun _ h => tcons h) tw_662 tw_664 ts_27 tw_8 tw_665) rfl rfl rfl (by decide +kernel) ⟨Nat.le_of_ble_eq_true rfl, Nat.le_of_ble_eq_true rfl⟩) (kr_recv hK hP 0 (by decide) (R_0 _ _ _ _) rfl) hK hP hD hS hA rfl hl.1 rfl (Nat.le_of_ble_eq_true rfl) dX7_explore_59 ⟨Nat.le_of_ble_eq_true rfl, Nat.le_of_ble_eq_true rfl⟩ (fun H locs hP hD hS => ?_)
      refine lv_bipush (v := (-2)) hx hb dX7_explore_62 (by decide) ?_
      exact kr_iret hx hb hr hlocks hK hP hD hS (by unfold r_oExplore; rw [if_pos c_2]) (mem4 (by unfold exR; rw [if_pos c_2]) (by unfold exR; rw [if_pos c_2])) dX7_explore_64
    · refine lv_aload_n hx hb dX7_explore_53 rfl (lv_at hl 0 rfl) ?_
      refine kr_get (C := "MonitorWaysModel") (T := TX7) (N := 27) hx hb hts hin_X7 hown hK hP 0 (by decide) (R_0 _ _ _ _) rfl 23 (by decide) lk_f152 (fun _ h9 => h9) rfl dX7_explore_54 ?_
      exact kr_iret hx hb hr hlocks hK hP hD hS (by unfold r_oExplore; rw [if_neg c_2]) (mem4 (by unfold exR; rw [if_neg c_2]) (by unfold exR; rw [if_neg c_2])) dX7_explore_57
  · refine lv_aload_n hx hb dX7_explore_22 rfl (lv_at hl 0 rfl) ?_
    refine kr_get (C := "MonitorWaysModel") (T := TX7) (N := 27) hx hb hts hin_X7 hown hK hP 0 (by decide) (R_0 _ _ _ _) rfl 19 (by decide) lk_f165 (fun _ h9 => h9) rfl dX7_explore_23 ?_
    refine kr_topi (y := nI (nS (eI (iv, lv) j).1)) (hN j hj).1 ?_
    refine lv_sipush (v := 3000) hx hb dX7_explore_26 (by decide) ?_
    refine lv_icmp_gt (tgt := 43) hx hb dX7_explore_29 (by decide) (fun c_3 => ?_) (fun c_3 => ?_)
    · have hN1 := (hN j hj).2
      have q0 : ¬ (j < nS (eI (iv, lv) j).1 ∧ nS (eI (iv, lv) j).1 ≤ 3000) := by have := (nI_ltI (a := 3000) (by decide) (by omega)).mp c_3; omega
      have hjJ : J = j := by rcases Nat.lt_or_ge j J with h | h; exact absurd ⟨(hS1 j h).1, (hS1 j h).2.1⟩ q0; omega
      subst hjJ
      refine lv_aload_n hx hb dX7_explore_43 rfl (lv_at hl 0 rfl) ?_
      refine kr_get (C := "MonitorWaysModel") (T := TX7) (N := 27) hx hb hts hin_X7 hown hK hP 0 (by decide) (R_0 _ _ _ _) rfl 19 (by decide) lk_f165 (fun _ h9 => h9) rfl dX7_explore_44 ?_
      refine kr_topi (y := nI (nS (eI (iv, lv) J).1)) (hN J (Nat.le_refl J)).1 ?_
      refine lv_sipush (v := 3000) hx hb dX7_explore_47 (by decide) ?_
      refine lv_icmp_gt (tgt := 58) hx hb dX7_explore_50 (by decide) (fun c_4 => ?_) (fun c_4 => ?_)
      · refine lv_aload_n hx hb dX7_explore_58 rfl (lv_at hl 0 rfl) ?_
        refine kr_callVv (As := []) (rest := []) ⟨hx, hb, hml, hown, hts⟩ (c_oForget l D gc ad ln (eI (iv, lv) J).1 (eI (iv, lv) J).2 ) (cwV 0 hts (goodV (fun _ h => tcons h) tw_662 tw_664 ts_27 tw_8 tw_665) rfl rfl rfl (by decide +kernel) ⟨Nat.le_of_ble_eq_true rfl, Nat.le_of_ble_eq_true rfl⟩) (kr_recv hK hP 0 (by decide) (R_0 _ _ _ _) rfl) hK hP hD hS hA rfl hl.1 rfl (Nat.le_of_ble_eq_true rfl) dX7_explore_59 ⟨Nat.le_of_ble_eq_true rfl, Nat.le_of_ble_eq_true rfl⟩ (fun H locs hP hD hS => ?_)
        refine lv_bipush (v := (-2)) hx hb dX7_explore_62 (by decide) ?_
        exact kr_iret hx hb hr hlocks hK hP hD hS (by unfold r_oExplore; rw [if_pos c_4]) (mem4 (by unfold exR; rw [if_pos c_4]) (by unfold exR; rw [if_pos c_4])) dX7_explore_64
      · refine lv_aload_n hx hb dX7_explore_53 rfl (lv_at hl 0 rfl) ?_
        refine kr_get (C := "MonitorWaysModel") (T := TX7) (N := 27) hx hb hts hin_X7 hown hK hP 0 (by decide) (R_0 _ _ _ _) rfl 23 (by decide) lk_f152 (fun _ h9 => h9) rfl dX7_explore_54 ?_
        exact kr_iret hx hb hr hlocks hK hP hD hS (by unfold r_oExplore; rw [if_neg c_4]) (mem4 (by unfold exR; rw [if_neg c_4]) (by unfold exR; rw [if_neg c_4])) dX7_explore_57
    · have hN1 := (hN j hj).2
      have q1 : j < nS (eI (iv, lv) j).1 := lt_of_nle (by omega) (by omega) c_1
      have q2 : nS (eI (iv, lv) j).1 ≤ 3000 := by rcases Nat.lt_or_ge 3000 (nS (eI (iv, lv) j).1) with h | h; exact absurd ((nI_ltI (a := 3000) (by decide) (by omega)).mpr h) c_3; exact h
      have hjJ : j < J := by rcases Nat.lt_or_ge j J with h | h; exact h; exact absurd (by rw [show J = j by omega]; exact ⟨q1, q2⟩) hE
      refine lv_aload_n hx hb dX7_explore_32 rfl (lv_at hl 0 rfl) ?_
      refine lv_iload_n hx hb dX7_explore_33 rfl (lv_at hl 1 rfl) ?_
      refine kr_callVv (As := [.int (nI j)]) (rest := []) ⟨hx, hb, hml, hown, hts⟩ (c_oGo l D gc ad ln (eI (iv, lv) j).1 (eI (iv, lv) j).2 j (hS1 j hjJ).2.2) (cwV 1 hts (goodV (fun _ h => tcons h) tw_781 tw_783 ts_48 tw_8 tw_784) rfl rfl rfl (by decide +kernel) ⟨Nat.le_of_ble_eq_true rfl, Nat.le_of_ble_eq_true rfl⟩) (kr_recv hK hP 0 (by decide) (R_0 _ _ _ _) rfl) hK hP hD hS hA rfl hl.1 rfl (Nat.le_of_ble_eq_true rfl) dX7_explore_34 ⟨Nat.le_of_ble_eq_true rfl, Nat.le_of_ble_eq_true rfl⟩ (fun H locs hP hD hS => ?_)
      refine lv_iinc (v := nI (j + 1)) (lv' := [(1, .int (nI (j + 1))), (0, .ref (ad 0))]) hx hb dX7_explore_37 hl (k := 1) rfl (nI_1 j) (by decide) rfl (fun ls hl => ?_)
      refine lv_goto (tgt := 14) hx hb dX7_explore_40 (by decide) ?_
      exact ih (j + 1) H locs ls ⟨by omega, hP, hD, hS, lv_sub hl [1, 0] rfl⟩ (by show J - (j + 1) < J - j; omega)
