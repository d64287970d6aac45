/-! the reference's choices with their numbers read off the memory -/
def pO (iv : Nat → Nat → Int32) (t : Nat) : Nat := (iv 4 t).toNatClampNeg
def xO (iv : Nat → Nat → Int32) (t : Nat) : Int32 := if iv 5 t = 0 then iv 2 (6 * t + pO iv t) else iv 2 (6 * t + pO iv t - 1)
def mmO (iv : Nat → Nat → Int32) (t : Nat) : Nat := (xO iv t).toNatClampNeg % 2
def uO (iv : Nat → Nat → Int32) (t : Nat) : Nat := (xO iv t).toNatClampNeg % 4
theorem mmO_lt (iv : Nat → Nat → Int32) (t : Nat) : mmO iv t < 2 := Nat.mod_lt _ (by decide)
theorem uO_lt (iv : Nat → Nat → Int32) (t : Nat) : uO iv t < 4 := Nat.mod_lt _ (by decide)
def szO (iv : Nat → Nat → Int32) (t : Nat) : Nat := (iv 14 (mmO iv t)).toNatClampNeg
def vaO (iv : Nat → Nat → Int32) (t : Nat) : Nat := (iv 15 (4 * mmO iv t)).toNatClampNeg
def vbO (iv : Nat → Nat → Int32) (t : Nat) : Nat := (iv 15 (4 * mmO iv t + (szO iv t - 1))).toNatClampNeg
def k0O (iv : Nat → Nat → Int32) (t : Nat) : Nat := if iv 15 (4 * mmO iv t) = nI t then 0 else if iv 15 (4 * mmO iv t + 1) = nI t then 1 else if iv 15 (4 * mmO iv t + 2) = nI t then 2 else 3
def mayO (iv : Nat → Nat → Int32) (t : Nat) (way : Int32) : Int32 := r_oMay iv t (mmO iv t) (uO iv t) (pO iv t) way
def perO (iv : Nat → Nat → Int32) (t : Nat) (way : Int32) : Nat → Nat → Int32 := m_oPerf iv t (mmO iv t) (uO iv t) (pO iv t) way (szO iv t) (vaO iv t) (vbO iv t) (k0O iv t)
def perL (iv : Nat → Nat → Int32) (lv : Nat → Nat → Int64) (t : Nat) (way : Int32) : Nat → Nat → Int64 := n_oPerf iv lv t (mmO iv t) (uO iv t) (pO iv t) way (szO iv t) (vaO iv t) (vbO iv t) (k0O iv t)
def okO (iv : Nat → Nat → Int32) (t : Nat) : Prop := okR iv t (pO iv t) (mmO iv t) (uO iv t)
def okP (iv : Nat → Nat → Int32) (t : Nat) (way : Int32) : Prop := (iv 5 t = 0 → r_oAction iv t (pO iv t) < 6 → okMon (up2 iv 4 t (nI (pO iv t + 1))) t (mmO iv t) (r_oAction iv t (pO iv t)) way (szO iv t) (vaO iv t) (vbO iv t)) ∧ (¬ iv 5 t = 0 → ¬ iv 5 t = 2 → ¬ iv 5 t = 3 → okLv iv t (pO iv t) (mmO iv t) (szO iv t) (k0O iv t))
def nS (iv : Nat → Nat → Int32) : Nat := (iv 0 19).toNatClampNeg
def okN (iv : Nat → Nat → Int32) : Prop := iv 0 19 = nI (nS iv) ∧ nS iv ≤ 3001
def lfO (iv : Nat → Nat → Int32) (t : Nat) : Nat := (iv 7 t).toNatClampNeg
def fO (iv : Nat → Nat → Int32) : Nat := (iv 0 23).toNatClampNeg
def okF (iv : Nat → Nat → Int32) : Prop := (∀ t, t < 4 → iv 7 t = nI (lfO iv t)) ∧ (∀ t, t < 4 → lfO iv t ≤ 6) ∧ iv 0 23 = nI (fO iv) ∧ fO iv ≤ 3000
abbrev RM : Type := (Nat → Nat → Int32) × (Nat → Nat → Int64)
def unR (k : Nat) (x : RM) : RM := (m_oUnp x.1 x.2 17 (5 * k), n_oUnp x.1 x.2 17 (5 * k))
noncomputable def meR (x : RM) : RM := (m_oMeet x.1 x.2 (nS x.1), n_oMeet x.1 x.2 (nS x.1))
def peR (x : RM) (t : Nat) (way : Int32) : RM := (perO x.1 t way, perL x.1 x.2 t way)
/-- goOn's turn c: state k again, and, if the choice is allowed, the state behind it is met; how many were allowed -/
noncomputable def gS (k c : Nat) (x : RM × Nat) : RM × Nat := if mayO (unR k x.1).1 (c / 4) (nI (c % 4)) = 0 then (unR k x.1, x.2) else (meR (peR (unR k x.1) (c / 4) (nI (c % 4))), x.2 + 1)
noncomputable def gI (k : Nat) (x : RM) : Nat → RM × Nat
  | 0 => (x, 0)
  | c + 1 => gS k c (gI k x c)
def okG (k c : Nat) (x : RM) : Prop := okO (unR k x).1 (c / 4) ∧ (¬ mayO (unR k x).1 (c / 4) (nI (c % 4)) = 0 → okP (unR k x).1 (c / 4) (nI (c % 4)) ∧ okN (perO (unR k x).1 (c / 4) (nI (c % 4))))
theorem gI_le {k : Nat} {x : RM} : ∀ c, (gI k x c).2 ≤ c
  | 0 => Nat.le_refl 0
  | c + 1 => by
    have := gI_le (k := k) (x := x) c
    rw [gI, gS]
    split
    · show (gI k x c).2 ≤ c + 1; omega
    · show (gI k x c).2 + 1 ≤ c + 1; omega
theorem gI_n {k c : Nat} {x : RM} (h : mayO (unR k (gI k x c).1).1 (c / 4) (nI (c % 4)) = 0) : gI k x (c + 1) = (unR k (gI k x c).1, (gI k x c).2) := by rw [gI, gS, if_pos h]
theorem gI_y {k c : Nat} {x : RM} (h : ¬ mayO (unR k (gI k x c).1).1 (c / 4) (nI (c % 4)) = 0) : gI k x (c + 1) = (meR (peR (unR k (gI k x c).1) (c / 4) (nI (c % 4))), (gI k x c).2 + 1) := by rw [gI, gS, if_neg h]
def fiR (x : RM) : RM := (m_oFin x.1 x.2 (lfO x.1) (fO x.1), n_oFin x.1 x.2 (lfO x.1) (fO x.1))
noncomputable def gF (k : Nat) (x : RM) : RM := if nI (gI k x 16).2 = 0 then fiR (unR k (gI k x 16).1) else unR k (gI k x 16).1
noncomputable def goR (k : Nat) (x : RM) : RM := if nI (gI k x 16).2 ≤ (gF k x).1 0 22 then gF k x else (up2 (gF k x).1 0 22 (nI (gI k x 16).2), (gF k x).2)
def okGo (k : Nat) (x : RM) : Prop := k ≤ 3000 ∧ (∀ c, c < 16 → okG k c (gI k x c).1) ∧ (nI (gI k x 16).2 = 0 → okF (unR k (gI k x 16).1).1)
set_option maxHeartbeats 4000000 in
set_option maxRecDepth 100000 in
theorem c_oGo (l : Launch) (D : va_G) (gc : Nat → ClassId) (ad ln : Nat → Nat) (iv : Nat → Nat → Int32) (lv : Nat → Nat → Int64) (k : Nat) (hok : okGo k (iv, lv)) : kMv l yX7_goOn wX7_goOn ({ frames := 6, cells := 0, slots := 0, locals := 137 }) D vwCl (kT gc) 20 (rE gc) [.ref (ad 0), .int (nI k)] (ad, ln, iv, lv) (ad, ln, (goR k (iv, lv)).1, (goR k (iv, lv)).2) := by
  refine kv_start (cc := cX7_goOn) (maxL := 4) (by decide) rfl (Nat.le_of_ble_eq_true rfl) ?_
  intro p9 e9 s m9 below meth c9 A ls hx hb hr hts hown hlocks hml hA hK hP hD hS hl
  have hl : lv_has ls 4 [(0, .ref (ad 0)), (1, .int (nI k))] := hl
  have hown : s.vm.findClass "MonitorWaysModel" = some m9.cls := hown
  have hin_X7 : ∀ w ∈ u_ws "MonitorWaysModel" TX7 27, w ∈ wX7_goOn := fun w h => tcons (inX7 w h)
  have lk_f60 := hts _ (tcons tw_592)
  have lk_f156 := hts _ (tcons tw_596)
  refine lv_iconst (v := 0) hx hb dX7_goOn_0 (by decide) ?_
  refine lv_istore_n (lv' := [(2, .int 0), (0, .ref (ad 0)), (1, .int (nI k))]) hx hb dX7_goOn_1 rfl hl (by decide) rfl (fun ls hl => ?_)
  refine lv_iconst (v := 0) hx hb dX7_goOn_2 (by decide) ?_
  refine lv_istore_n (lv' := [(3, .int 0), (2, .int 0), (0, .ref (ad 0)), (1, .int (nI k))]) hx hb dX7_goOn_3 rfl hl (by decide) rfl (fun ls hl => ?_)
  refine kr_loop (σ := Nat) (fun z9 => match z9 with | c => 16 - c) (fun z9 H locs ls => match z9 with | c => (c ≤ 16) ∧ va_P D vwCl (mW 20 (rE gc) (ad, ln, (gI k (iv, lv) c).1.1, (gI k (iv, lv) c).1.2)) H ∧ va_D A (mW 20 (rE gc) (ad, ln, (gI k (iv, lv) c).1.1, (gI k (iv, lv) c).1.2)) ∧ va_S A s.heap H locs ∧ lv_has ls 4 [(0, .ref (ad 0)), (1, .int (nI k)), (2, .int (nI (gI k (iv, lv) c).2)), (3, .int (nI c))]) 4 (0) ⟨Nat.zero_le _, hP, hD, hS, lv_sub hl [2, 3, 1, 0] rfl⟩ ?_
  intro z9 H locs ls hI ih
  obtain ⟨c, hx9⟩ : ∃ z, z = z9 := ⟨_, rfl⟩
  subst hx9
  obtain ⟨hc, hP, hD, hS, hl⟩ := hI
  refine lv_iload_n hx hb dX7_goOn_4 rfl (lv_at hl 3 rfl) ?_
  refine lv_bipush (v := 16) hx hb dX7_goOn_5 (by decide) ?_
  refine lv_icmp_ge (tgt := 60) hx hb dX7_goOn_7 (by decide) (fun c_1 => ?_) (fun c_1 => ?_)
  · have hce : 16 = c := by have := (nI_leI (a := 16) (by decide) (by omega)).mp c_1; omega
    subst hce
    refine lv_aload_n hx hb dX7_goOn_60 rfl (lv_at hl 0 rfl) ?_
    refine lv_aload_n hx hb dX7_goOn_61 rfl (lv_at hl 0 rfl) ?_
    refine kr_get (C := "MonitorWaysModel") (T := TX7) (N := 27) hx hb hts hin_X7 hown hK hP 0 (by decide) (R_0 _ _ _ _) rfl 18 (by decide) lk_f60 (fun _ h9 => h9) rfl dX7_goOn_62 ?_
    refine lv_iconst (v := 5) hx hb dX7_goOn_65 (by decide) ?_
    refine lv_iload_n hx hb dX7_goOn_66 rfl (lv_at hl 1 rfl) ?_
    refine lv_imul hx hb dX7_goOn_67 ?_
    refine kr_topi (y := nI (5 * k)) (pk_mul 5 k) ?_
    refine kr_callVv (As := [.ref (ad 17), .int (nI (5 * k))]) (rest := []) ⟨hx, hb, hml, hown, hts⟩ (c_oUnp l D gc ad ln (gI k (iv, lv) 16).1.1 (gI k (iv, lv) 16).1.2 17 (5 * k) (Or.inr rfl) (by show 5 * k + 5 ≤ 15005; have := hok.1; omega)) (cwV 2 hts (goodV (fun _ h => tcons h) tw_670 tw_672 ts_28 tw_8 tw_673) rfl rfl rfl (by decide +kernel) ⟨Nat.le_of_ble_eq_true rfl, Nat.le_of_ble_eq_true rfl⟩) (kr_recv hK hP 0 (by decide) (R_0 _ _ _ _) rfl) hK hP hD hS hA rfl hl.1 rfl (Nat.le_of_ble_eq_true rfl) dX7_goOn_68 ⟨Nat.le_of_ble_eq_true rfl, Nat.le_of_ble_eq_true rfl⟩ (fun H locs hP hD hS => ?_)
    have hP : va_P D vwCl (mW 20 (rE gc) (ad, ln, (unR k (gI k (iv, lv) 16).1).1, (unR k (gI k (iv, lv) 16).1).2)) H := hP
    have hD : va_D A (mW 20 (rE gc) (ad, ln, (unR k (gI k (iv, lv) 16).1).1, (unR k (gI k (iv, lv) 16).1).2)) := hD
    refine lv_iload_n hx hb dX7_goOn_71 rfl (lv_at hl 2 rfl) ?_
    refine lv_if_ne (tgt := 79) hx hb dX7_goOn_72 (by decide) (fun c_2 => ?_) (fun c_2 => ?_)
    · have hgF : gF k (iv, lv) = unR k (gI k (iv, lv) 16).1 := by unfold gF; rw [if_neg c_2]
      have hP : va_P D vwCl (mW 20 (rE gc) (ad, ln, (gF k (iv, lv)).1, (gF k (iv, lv)).2)) H := by rw [hgF]; exact hP
      have hD : va_D A (mW 20 (rE gc) (ad, ln, (gF k (iv, lv)).1, (gF k (iv, lv)).2)) := by rw [hgF]; exact hD
      refine lv_iload_n hx hb dX7_goOn_79 rfl (lv_at hl 2 rfl) ?_
      refine lv_aload_n hx hb dX7_goOn_80 rfl (lv_at hl 0 rfl) ?_
      refine kr_get (C := "MonitorWaysModel") (T := TX7) (N := 27) hx hb hts hin_X7 hown hK hP 0 (by decide) (R_0 _ _ _ _) rfl 22 (by decide) lk_f156 (fun _ h9 => h9) rfl dX7_goOn_81 ?_
      refine lv_icmp_le (tgt := 92) hx hb dX7_goOn_84 (by decide) (fun c_3 => ?_) (fun c_3 => ?_)
      · exact kr_vret hx hb hr hlocks hK hP hD hS (mem4 (by unfold goR; rw [if_pos c_3]) (by unfold goR; rw [if_pos c_3])) dX7_goOn_92
      · refine lv_aload_n hx hb dX7_goOn_87 rfl (lv_at hl 0 rfl) ?_
        refine lv_iload_n hx hb dX7_goOn_88 rfl (lv_at hl 2 rfl) ?_
        refine kr_put (C := "MonitorWaysModel") (T := TX7) (N := 27) hx hb hts hin_X7 tyX7 ok_tyX7 ok_nX7 hown hK hP hD hS 0 (by decide) (fun _ => R_0 _ _ _ _) rfl 22 (by decide) lk_f156 (fun _ h9 => h9) rfl rfl rfl rfl (fun _ => Nat.le_of_ble_eq_true rfl) (fun _ => rfl) dX7_goOn_89 (fun H locs hP hD hS => ?_)
        exact kr_vret hx hb hr hlocks hK hP hD hS (mem4 (by unfold goR; rw [if_neg c_3]) (by unfold goR; rw [if_neg c_3])) dX7_goOn_92
    · obtain ⟨hf1, hf2, hf3, hf4⟩ := hok.2.2 c_2
      refine lv_aload_n hx hb dX7_goOn_75 rfl (lv_at hl 0 rfl) ?_
      refine kr_callVv (As := []) (rest := []) ⟨hx, hb, hml, hown, hts⟩ (c_oFin l D gc ad ln (unR k (gI k (iv, lv) 16).1).1 (unR k (gI k (iv, lv) 16).1).2 (lfO (unR k (gI k (iv, lv) 16).1).1) hf1 hf2 (fO (unR k (gI k (iv, lv) 16).1).1) hf3 hf4) (cwV 0 hts (goodV (fun _ h => tcons h) tw_785 tw_787 ts_49 tw_8 tw_788) rfl rfl rfl (by decide +kernel) ⟨Nat.le_of_ble_eq_true rfl, Nat.le_of_ble_eq_true rfl⟩) (kr_recv hK hP 0 (by decide) (R_0 _ _ _ _) rfl) hK hP hD hS hA rfl hl.1 rfl (Nat.le_of_ble_eq_true rfl) dX7_goOn_76 ⟨Nat.le_of_ble_eq_true rfl, Nat.le_of_ble_eq_true rfl⟩ (fun H locs hP hD hS => ?_)
      have hgF : gF k (iv, lv) = fiR (unR k (gI k (iv, lv) 16).1) := by unfold gF; rw [if_pos c_2]
      have hP : va_P D vwCl (mW 20 (rE gc) (ad, ln, (gF k (iv, lv)).1, (gF k (iv, lv)).2)) H := by rw [hgF]; exact hP
      have hD : va_D A (mW 20 (rE gc) (ad, ln, (gF k (iv, lv)).1, (gF k (iv, lv)).2)) := by rw [hgF]; exact hD
      refine lv_iload_n hx hb dX7_goOn_79 rfl (lv_at hl 2 rfl) ?_
      refine lv_aload_n hx hb dX7_goOn_80 rfl (lv_at hl 0 rfl) ?_
      refine kr_get (C := "MonitorWaysModel") (T := TX7) (N := 27) hx hb hts hin_X7 hown hK hP 0 (by decide) (R_0 _ _ _ _) rfl 22 (by decide) lk_f156 (fun _ h9 => h9) rfl dX7_goOn_81 ?_
      refine lv_icmp_le (tgt := 92) hx hb dX7_goOn_84 (by decide) (fun c_4 => ?_) (fun c_4 => ?_)
      · exact kr_vret hx hb hr hlocks hK hP hD hS (mem4 (by unfold goR; rw [if_pos c_4]) (by unfold goR; rw [if_pos c_4])) dX7_goOn_92
      · refine lv_aload_n hx hb dX7_goOn_87 rfl (lv_at hl 0 rfl) ?_
        refine lv_iload_n hx hb dX7_goOn_88 rfl (lv_at hl 2 rfl) ?_
        refine kr_put (C := "MonitorWaysModel") (T := TX7) (N := 27) hx hb hts hin_X7 tyX7 ok_tyX7 ok_nX7 hown hK hP hD hS 0 (by decide) (fun _ => R_0 _ _ _ _) rfl 22 (by decide) lk_f156 (fun _ h9 => h9) rfl rfl rfl rfl (fun _ => Nat.le_of_ble_eq_true rfl) (fun _ => rfl) dX7_goOn_89 (fun H locs hP hD hS => ?_)
        exact kr_vret hx hb hr hlocks hK hP hD hS (mem4 (by unfold goR; rw [if_neg c_4]) (by unfold goR; rw [if_neg c_4])) dX7_goOn_92
  · have hc16 : c < 16 := lt_of_nle (a := 16) (by decide) (by omega) c_1
    have hg := hok.2.1 c hc16
    refine lv_aload_n hx hb dX7_goOn_10 rfl (lv_at hl 0 rfl) ?_
    refine lv_aload_n hx hb dX7_goOn_11 rfl (lv_at hl 0 rfl) ?_
    refine kr_get (C := "MonitorWaysModel") (T := TX7) (N := 27) hx hb hts hin_X7 hown hK hP 0 (by decide) (R_0 _ _ _ _) rfl 18 (by decide) lk_f60 (fun _ h9 => h9) rfl dX7_goOn_12 ?_
    refine lv_iconst (v := 5) hx hb dX7_goOn_15 (by decide) ?_
    refine lv_iload_n hx hb dX7_goOn_16 rfl (lv_at hl 1 rfl) ?_
    refine lv_imul hx hb dX7_goOn_17 ?_
    refine kr_topi (y := nI (5 * k)) (pk_mul 5 k) ?_
    refine kr_callVv (As := [.ref (ad 17), .int (nI (5 * k))]) (rest := []) ⟨hx, hb, hml, hown, hts⟩ (c_oUnp l D gc ad ln (gI k (iv, lv) c).1.1 (gI k (iv, lv) c).1.2 17 (5 * k) (Or.inr rfl) (by show 5 * k + 5 ≤ 15005; have := hok.1; omega)) (cwV 2 hts (goodV (fun _ h => tcons h) tw_670 tw_672 ts_28 tw_8 tw_673) rfl rfl rfl (by decide +kernel) ⟨Nat.le_of_ble_eq_true rfl, Nat.le_of_ble_eq_true rfl⟩) (kr_recv hK hP 0 (by decide) (R_0 _ _ _ _) rfl) hK hP hD hS hA rfl hl.1 rfl (Nat.le_of_ble_eq_true rfl) dX7_goOn_18 ⟨Nat.le_of_ble_eq_true rfl, Nat.le_of_ble_eq_true rfl⟩ (fun H locs hP hD hS => ?_)
    have hP : va_P D vwCl (mW 20 (rE gc) (ad, ln, (unR k (gI k (iv, lv) c).1).1, (unR k (gI k (iv, lv) c).1).2)) H := hP
    have hD : va_D A (mW 20 (rE gc) (ad, ln, (unR k (gI k (iv, lv) c).1).1, (unR k (gI k (iv, lv) c).1).2)) := hD
    refine lv_aload_n hx hb dX7_goOn_21 rfl (lv_at hl 0 rfl) ?_
    refine lv_iload_n hx hb dX7_goOn_22 rfl (lv_at hl 3 rfl) ?_
    refine lv_iconst (v := 4) hx hb dX7_goOn_23 (by decide) ?_
    refine lv_idiv hx hb dX7_goOn_24 (by decide) ?_
    refine kr_topi (y := nI (c / 4)) (pk_div (a := c) (d := 4) (by omega) (by decide) (by decide)) ?_
    refine lv_iload_n hx hb dX7_goOn_25 rfl (lv_at hl 3 rfl) ?_
    refine lv_iconst (v := 4) hx hb dX7_goOn_26 (by decide) ?_
    refine lv_irem hx hb dX7_goOn_27 (by decide) ?_
    refine kr_topi (y := nI (c % 4)) (pk_rem (a := c) (d := 4) (by omega) (by decide) (by decide)) ?_
    refine kr_callVi (As := [.int (nI (c / 4)), .int (nI (c % 4))]) (rest := []) ⟨hx, hb, hml, hown, hts⟩ (c_oMay l D gc ad ln (unR k (gI k (iv, lv) c).1).1 (unR k (gI k (iv, lv) c).1).2 (c / 4) (mmO (unR k (gI k (iv, lv) c).1).1 (c / 4)) (uO (unR k (gI k (iv, lv) c).1).1 (c / 4)) (pO (unR k (gI k (iv, lv) c).1).1 (c / 4)) (by omega) (mmO_lt _ _) (uO_lt _ _) (nI (c % 4)) hg.1) (cwV 2 hts (goodV (fun _ h => tcons h) tw_679 tw_681 ts_30 tw_8 tw_682) rfl rfl rfl (by decide +kernel) ⟨Nat.le_of_ble_eq_true rfl, Nat.le_of_ble_eq_true rfl⟩) (kr_recv hK hP 0 (by decide) (R_0 _ _ _ _) rfl) hK hP hD hS hA rfl hl.1 rfl (Nat.le_of_ble_eq_true rfl) dX7_goOn_28 ⟨Nat.le_of_ble_eq_true rfl, Nat.le_of_ble_eq_true rfl⟩ (fun H locs hP hD hS => ?_)
    refine kr_topi (y := mayO (unR k (gI k (iv, lv) c).1).1 (c / 4) (nI (c % 4))) rfl ?_
    refine lv_if_ne (tgt := 37) hx hb dX7_goOn_31 (by decide) (fun c_5 => ?_) (fun c_5 => ?_)
    · obtain ⟨hp1, hp2⟩ := hg.2 c_5
      refine lv_iinc (v := nI ((gI k (iv, lv) c).2 + 1)) (lv' := [(2, .int (nI ((gI k (iv, lv) c).2 + 1))), (0, .ref (ad 0)), (1, .int (nI k)), (3, .int (nI c))]) hx hb dX7_goOn_37 hl (k := 2) rfl (nI_1 _) (by decide) rfl (fun ls hl => ?_)
      refine lv_aload_n hx hb dX7_goOn_40 rfl (lv_at hl 1 rfl) ?_
      refine lv_iload_n hx hb dX7_goOn_41 rfl (lv_at hl 3 rfl) ?_
      refine lv_iconst (v := 4) hx hb dX7_goOn_42 (by decide) ?_
      refine lv_idiv hx hb dX7_goOn_43 (by decide) ?_
      refine kr_topi (y := nI (c / 4)) (pk_div (a := c) (d := 4) (by omega) (by decide) (by decide)) ?_
      refine lv_iload_n hx hb dX7_goOn_44 rfl (lv_at hl 3 rfl) ?_
      refine lv_iconst (v := 4) hx hb dX7_goOn_45 (by decide) ?_
      refine lv_irem hx hb dX7_goOn_46 (by decide) ?_
      refine kr_topi (y := nI (c % 4)) (pk_rem (a := c) (d := 4) (by omega) (by decide) (by decide)) ?_
      refine kr_callVv (As := [.int (nI (c / 4)), .int (nI (c % 4))]) (rest := []) ⟨hx, hb, hml, hown, hts⟩ (c_oPerf l D gc ad ln (unR k (gI k (iv, lv) c).1).1 (unR k (gI k (iv, lv) c).1).2 (c / 4) (mmO (unR k (gI k (iv, lv) c).1).1 (c / 4)) (uO (unR k (gI k (iv, lv) c).1).1 (c / 4)) (pO (unR k (gI k (iv, lv) c).1).1 (c / 4)) (by omega) (mmO_lt _ _) (uO_lt _ _) (nI (c % 4)) hg.1 _ _ _ _ hp1.1 hp1.2) (cwV 2 hts (goodV (fun _ h => tcons h) tw_703 tw_705 ts_36 tw_8 tw_706) rfl rfl rfl (by decide +kernel) ⟨Nat.le_of_ble_eq_true rfl, Nat.le_of_ble_eq_true rfl⟩) (kr_recv hK hP 0 (by decide) (R_0 _ _ _ _) rfl) hK hP hD hS hA rfl hl.1 rfl (Nat.le_of_ble_eq_true rfl) dX7_goOn_47 ⟨Nat.le_of_ble_eq_true rfl, Nat.le_of_ble_eq_true rfl⟩ (fun H locs hP hD hS => ?_)
      have hP : va_P D vwCl (mW 20 (rE gc) (ad, ln, (peR (unR k (gI k (iv, lv) c).1) (c / 4) (nI (c % 4))).1, (peR (unR k (gI k (iv, lv) c).1) (c / 4) (nI (c % 4))).2)) H := hP
      have hD : va_D A (mW 20 (rE gc) (ad, ln, (peR (unR k (gI k (iv, lv) c).1) (c / 4) (nI (c % 4))).1, (peR (unR k (gI k (iv, lv) c).1) (c / 4) (nI (c % 4))).2)) := hD
      refine lv_aload_n hx hb dX7_goOn_50 rfl (lv_at hl 1 rfl) ?_
      refine kr_callVv (As := []) (rest := []) ⟨hx, hb, hml, hown, hts⟩ (c_oMeet l D gc ad ln (peR (unR k (gI k (iv, lv) c).1) (c / 4) (nI (c % 4))).1 (peR (unR k (gI k (iv, lv) c).1) (c / 4) (nI (c % 4))).2 (nS (peR (unR k (gI k (iv, lv) c).1) (c / 4) (nI (c % 4))).1) hp2.1 hp2.2) (cwV 0 hts (goodV (fun _ h => tcons h) tw_777 tw_779 ts_47 tw_8 tw_780) rfl rfl rfl (by decide +kernel) ⟨Nat.le_of_ble_eq_true rfl, Nat.le_of_ble_eq_true rfl⟩) (kr_recv hK hP 0 (by decide) (R_0 _ _ _ _) rfl) hK hP hD hS hA rfl hl.1 rfl (Nat.le_of_ble_eq_true rfl) dX7_goOn_51 ⟨Nat.le_of_ble_eq_true rfl, Nat.le_of_ble_eq_true rfl⟩ (fun H locs hP hD hS => ?_)
      have hP : va_P D vwCl (mW 20 (rE gc) (ad, ln, (meR (peR (unR k (gI k (iv, lv) c).1) (c / 4) (nI (c % 4)))).1, (meR (peR (unR k (gI k (iv, lv) c).1) (c / 4) (nI (c % 4)))).2)) H := hP
      have hD : va_D A (mW 20 (rE gc) (ad, ln, (meR (peR (unR k (gI k (iv, lv) c).1) (c / 4) (nI (c % 4)))).1, (meR (peR (unR k (gI k (iv, lv) c).1) (c / 4) (nI (c % 4)))).2)) := hD
      refine lv_iinc (v := nI (c + 1)) (lv' := [(3, .int (nI (c + 1))), (2, .int (nI ((gI k (iv, lv) c).2 + 1))), (0, .ref (ad 0)), (1, .int (nI k))]) hx hb dX7_goOn_54 hl (k := 3) rfl (nI_1 c) (by decide) rfl (fun ls hl => ?_)
      refine lv_goto (tgt := 4) hx hb dX7_goOn_57 (by decide) ?_
      have eg : gI k (iv, lv) (c + 1) = _ := gI_y c_5
      have hP : va_P D vwCl (mW 20 (rE gc) (ad, ln, (gI k (iv, lv) (c + 1)).1.1, (gI k (iv, lv) (c + 1)).1.2)) H := by rw [eg]; exact hP
      have hD : va_D A (mW 20 (rE gc) (ad, ln, (gI k (iv, lv) (c + 1)).1.1, (gI k (iv, lv) (c + 1)).1.2)) := by rw [eg]; exact hD
      have hl : lv_has ls 4 [(3, .int (nI (c + 1))), (2, .int (nI (gI k (iv, lv) (c + 1)).2)), (0, .ref (ad 0)), (1, .int (nI k))] := by rw [eg]; exact hl
      exact ih (c + 1) H locs ls ⟨by omega, hP, hD, hS, lv_sub hl [2, 3, 1, 0] rfl⟩ (by show 16 - (c + 1) < 16 - c; omega)
    · refine lv_goto (tgt := 54) hx hb dX7_goOn_34 (by decide) ?_
      refine lv_iinc (v := nI (c + 1)) (lv' := [(3, .int (nI (c + 1))), (0, .ref (ad 0)), (1, .int (nI k)), (2, .int (nI (gI k (iv, lv) c).2))]) hx hb dX7_goOn_54 hl (k := 3) rfl (nI_1 c) (by decide) rfl (fun ls hl => ?_)
      refine lv_goto (tgt := 4) hx hb dX7_goOn_57 (by decide) ?_
      have eg : gI k (iv, lv) (c + 1) = _ := gI_n c_5
      have hP : va_P D vwCl (mW 20 (rE gc) (ad, ln, (gI k (iv, lv) (c + 1)).1.1, (gI k (iv, lv) (c + 1)).1.2)) H := by rw [eg]; exact hP
      have hD : va_D A (mW 20 (rE gc) (ad, ln, (gI k (iv, lv) (c + 1)).1.1, (gI k (iv, lv) (c + 1)).1.2)) := by rw [eg]; exact hD
      have hl : lv_has ls 4 [(3, .int (nI (c + 1))), (0, .ref (ad 0)), (1, .int (nI k)), (2, .int (nI (gI k (iv, lv) (c + 1)).2))] := by rw [eg]; exact hl
      exact ih (c + 1) H locs ls ⟨by omega, hP, hD, hS, lv_sub hl [1, 2, 3, 0] rfl⟩ (by show 16 - (c + 1) < 16 - c; omega)
