/-- what a choice of thread t rests on: where it stands, its operand as a monitor mm or a thread u -/
def okT (iv : Nat → Nat → Int32) (mi t mm u : Nat) : Prop :=
  (¬ iv (20 + 4 * mi + t) 0 = 4 → vp_in (iv (20 + 4 * mi + t) 1) 6) ∧
  (iv (20 + 4 * mi + t) 0 = 0 → ¬ 5 < r_wAction iv mi t → r_wOperand iv mi t = nI mm) ∧
  (iv (20 + 4 * mi + t) 0 = 0 → r_wAction iv mi t = 6 ∨ r_wAction iv mi t = 8 ∨ r_wAction iv mi t = 9 → r_wOperand iv mi t = nI u) ∧
  (iv (20 + 4 * mi + t) 0 = 1 ∨ iv (20 + 4 * mi + t) 0 = 2 → r_wOperand iv mi t = nI mm) ∧
  narrow .boolean (.int (iv (20 + 4 * mi + t) 3)) = .int (iv (20 + 4 * mi + t) 3)
theorem okT_pl {iv : Nat → Nat → Int32} {mi t mm u : Nat} {j : Int32} (h : okT iv mi t mm u) (hs : iv (20 + 4 * mi + t) 0 = j) (hj : ¬ j = 4) : vp_in (iv (20 + 4 * mi + t) 1) 6 := h.1 (by rw [hs]; exact hj)
theorem nb_aWaitMay {iv : Nat → Nat → Int32} {mi t : Nat} {way : Int32} (hz : narrow .boolean (.int (iv (20 + 4 * mi + t) 3)) = .int (iv (20 + 4 * mi + t) 3)) : narrow .boolean (.int (r_aWaitMay iv mi t way)) = .int (r_aWaitMay iv mi t way) := by
  unfold r_aWaitMay
  split
  · exact hz
  · split
    · exact nb_aStray iv mi t
    · repeat' split
      all_goals rfl
def r_aMay (iv : Nat → Nat → Int32) (mi t mm u : Nat) (way : Int32) : Int32 := if iv (20 + 4 * mi + t) 0 = 0 then if 5 < (r_wAction iv mi t) then (r_aPlainMay iv mi t u way) else (r_aMonMay iv mi t mm way) else if iv (20 + 4 * mi + t) 0 = 1 then (r_aWaitMay iv mi t way) else if iv (20 + 4 * mi + t) 0 = 2 then if way = 0 then (if (r_mIsFree iv mi mm) = 0 then (0 : Int32) else 1) else 0 else if iv (20 + 4 * mi + t) 0 = 3 then if way = 1 then iv (20 + 4 * mi + t) 3 else if way = 3 then (if (r_aStray iv mi t) = 0 then (0 : Int32) else 1) else 0 else 0
set_option maxHeartbeats 4000000 in
set_option maxRecDepth 100000 in
theorem c_aMay (l : Launch) (D : va_G) (gc : Nat → ClassId) (ad ln : Nat → Nat) (iv : Nat → Nat → Int32) (lv : Nat → Nat → Int64) (mi t mm u : Nat) (hmi : mi < 2) (ht : t < 4) (hmm : mm < 2) (hu : u < 4) (way : Int32) (hT : okT iv mi t mm u) : kMi l yX0_allows wX0_allows ({ frames := 3, cells := 0, slots := 0, locals := 66 }) D vwCl (kT gc) 42 (kE gc) [.ref (ad (14 + mi)), .int (nI t), .int way] (ad, ln, iv, lv) (ad, ln, iv, lv) (r_aMay iv mi t mm u way) := by
  refine ki_start (cc := cX0_allows) (maxL := 4) (ret := (some .boolean)) (by decide) rfl (Nat.le_of_ble_eq_true rfl) ?_
  intro p9 e9 s m9 below meth c9 A ls hx hb hr hts hown hlocks hml hA hK hP hD hS hl
  have hl : lv_has ls 4 [(0, .ref (ad (14 + mi))), (1, .int (nI t)), (2, .int way)] := hl
  have hown : s.vm.findClass "MonitorWays$Machine" = some m9.cls := hown
  have hin_X0 : ∀ w ∈ u_ws "MonitorWays$Machine" TX0 3, w ∈ wX0_allows := fun w h => tcons (inX0 w h)
  have hin_X5 : ∀ w ∈ u_ws "MonitorWays$Worker" TX5 8, w ∈ wX0_allows := fun w h => tcons (inX5 w h)
  have lk_f11 := hts _ (tcons tw_126)
  have lk_f36 := hts _ (tcons tw_58)
  have lk_f63 := hts _ (tcons tw_63)
  refine lv_aload_n hx hb dX0_allows_0 rfl (lv_at hl 0 rfl) ?_
  refine kr_get (C := "MonitorWays$Machine") (T := TX0) (N := 3) hx hb hts hin_X0 hown hK hP (14 + mi) (by omega) (E_mach hmi _ _ _ _) rfl 0 (by decide) lk_f11 (fun _ h9 => h9) rfl dX0_allows_1 ?_
  refine lv_iload_n hx hb dX0_allows_4 rfl (lv_at hl 1 rfl) ?_
  refine kr_aald (a := ad (20 + 4 * mi + t)) hx hb hK hP (16 + mi) 4 (by omega) (E_warr hmi _ _ _ _) rfl (vp_in_nI (n := t) (by omega) (by decide)) (by rw [nI_clamp (show t < 2 ^ 31 by omega)]) dX0_allows_5 ?_
  refine lv_astore_n (lv' := [(3, .ref (ad (20 + 4 * mi + t))), (0, .ref (ad (14 + mi))), (1, .int (nI t)), (2, .int way)]) hx hb dX0_allows_6 rfl hl (by decide) rfl (fun ls hl => ?_)
  refine lv_aload_n hx hb dX0_allows_7 rfl (lv_at hl 0 rfl) ?_
  refine kr_get (C := "MonitorWays$Worker") (T := TX5) (N := 8) hx hb hts hin_X5 hown hK hP (20 + 4 * mi + t) (by omega) (E_wk (mi := mi) (t := t) hmi (by omega) _ _ _ _) rfl 0 (by decide) lk_f36 (fun _ h9 => h9) rfl dX0_allows_8 ?_
  by_cases c_1 : iv (20 + 4 * mi + t) 0 = 0
  · refine lv_tableIn (tgt := 40) (off := 29) hx hb dX0_allows_11 (by rw [c_1]; decide) (by rw [c_1]; decide) (by rw [c_1]; decide) (by decide) ?_
    refine lv_aload_n hx hb dX0_allows_40 rfl (lv_at hl 0 rfl) ?_
    refine kr_callVi (As := []) (rest := []) ⟨hx, hb, hml, hown, hts⟩ (c_wAction l D gc ad ln iv lv mi t hmi (by omega) (okT_pl hT c_1 (by decide))) (cwV 0 hts (goodV (fun _ h => tcons h) tw_256 tw_257 tw_258 tw_4 tw_259) rfl rfl rfl (by decide +kernel) ⟨Nat.le_of_ble_eq_true rfl, Nat.le_of_ble_eq_true rfl⟩) (kr_recv hK hP (20 + 4 * mi + t) (by omega) (E_wk (mi := mi) (t := t) hmi (by omega) _ _ _ _) rfl) hK hP hD hS hA rfl hl.1 rfl (Nat.le_of_ble_eq_true rfl) dX0_allows_41 ⟨Nat.le_of_ble_eq_true rfl, Nat.le_of_ble_eq_true rfl⟩ (fun H locs hP hD hS => ?_)
    refine lv_iconst (v := 5) hx hb dX0_allows_44 (by decide) ?_
    refine lv_icmp_gt (tgt := 57) hx hb dX0_allows_45 (by decide) (fun c_2 => ?_) (fun c_2 => ?_)
    · refine lv_aload_n hx hb dX0_allows_57 rfl (lv_at hl 1 rfl) ?_
      refine lv_aload_n hx hb dX0_allows_58 rfl (lv_at hl 0 rfl) ?_
      refine lv_iload_n hx hb dX0_allows_59 rfl (lv_at hl 3 rfl) ?_
      refine kr_callVi (As := [.ref (ad (20 + 4 * mi + t)), .int way]) (rest := []) ⟨hx, hb, hml, hown, hts⟩ (c_aPlainMay l D gc ad ln iv lv mi t u hmi (by omega) hu way (okT_pl hT c_1 (by decide)) (fun h => hT.2.2.1 c_1 (Or.inr (Or.inr h)))) (cwV 2 hts (goodV (fun _ h => tcons h) tw_276 tw_278 ts_3 tw_3 tw_279) rfl rfl rfl (by decide +kernel) ⟨Nat.le_of_ble_eq_true rfl, Nat.le_of_ble_eq_true rfl⟩) (kr_recv hK hP (14 + mi) (by omega) (E_mach hmi _ _ _ _) rfl) hK hP hD hS hA rfl hl.1 rfl (Nat.le_of_ble_eq_true rfl) dX0_allows_60 ⟨Nat.le_of_ble_eq_true rfl, Nat.le_of_ble_eq_true rfl⟩ (fun H locs hP hD hS => ?_)
      exact kr_zret hx hb hr hlocks hK hP hD hS (nb_aPlainMay iv mi t u way) (by unfold r_aMay; rw [if_pos c_1, if_pos c_2]) rfl dX0_allows_63
    · refine lv_aload_n hx hb dX0_allows_48 rfl (lv_at hl 1 rfl) ?_
      refine lv_iload_n hx hb dX0_allows_49 rfl (lv_at hl 2 rfl) ?_
      refine lv_iload_n hx hb dX0_allows_50 rfl (lv_at hl 3 rfl) ?_
      refine kr_callVi (As := [.int (nI t), .int way]) (rest := []) ⟨hx, hb, hml, hown, hts⟩ (c_aMonMay l D gc ad ln iv lv mi t mm hmi (by omega) hmm way (okT_pl hT c_1 (by decide)) (hT.2.1 c_1 c_2)) (cwV 2 hts (goodV (fun _ h => tcons h) tw_260 tw_262 ts_1 tw_3 tw_263) rfl rfl rfl (by decide +kernel) ⟨Nat.le_of_ble_eq_true rfl, Nat.le_of_ble_eq_true rfl⟩) (kr_recv hK hP (14 + mi) (by omega) (E_mach hmi _ _ _ _) rfl) hK hP hD hS hA rfl hl.1 rfl (Nat.le_of_ble_eq_true rfl) dX0_allows_51 ⟨Nat.le_of_ble_eq_true rfl, Nat.le_of_ble_eq_true rfl⟩ (fun H locs hP hD hS => ?_)
      refine lv_goto (tgt := 63) hx hb dX0_allows_54 (by decide) ?_
      exact kr_zret hx hb hr hlocks hK hP hD hS (nb_aMonMay iv mi t mm way) (by unfold r_aMay; rw [if_pos c_1, if_neg c_2]) rfl dX0_allows_63
  by_cases c_3 : iv (20 + 4 * mi + t) 0 = 1
  · refine lv_tableIn (tgt := 64) (off := 53) hx hb dX0_allows_11 (by rw [c_3]; decide) (by rw [c_3]; decide) (by rw [c_3]; decide) (by decide) ?_
    refine lv_aload_n hx hb dX0_allows_64 rfl (lv_at hl 1 rfl) ?_
    refine lv_aload_n hx hb dX0_allows_65 rfl (lv_at hl 0 rfl) ?_
    refine lv_iload_n hx hb dX0_allows_66 rfl (lv_at hl 3 rfl) ?_
    refine kr_callVi (As := [.ref (ad (20 + 4 * mi + t)), .int way]) (rest := []) ⟨hx, hb, hml, hown, hts⟩ (c_aWaitMay l D gc ad ln iv lv mi t hmi (by omega) way (okT_pl hT c_3 (by decide)) hT.2.2.2.2) (cwV 2 hts (goodV (fun _ h => tcons h) tw_284 tw_286 ts_4 tw_3 tw_287) rfl rfl rfl (by decide +kernel) ⟨Nat.le_of_ble_eq_true rfl, Nat.le_of_ble_eq_true rfl⟩) (kr_recv hK hP (14 + mi) (by omega) (E_mach hmi _ _ _ _) rfl) hK hP hD hS hA rfl hl.1 rfl (Nat.le_of_ble_eq_true rfl) dX0_allows_67 ⟨Nat.le_of_ble_eq_true rfl, Nat.le_of_ble_eq_true rfl⟩ (fun H locs hP hD hS => ?_)
    exact kr_zret hx hb hr hlocks hK hP hD hS (nb_aWaitMay hT.2.2.2.2) (by unfold r_aMay; rw [if_neg c_1, if_pos c_3]) rfl dX0_allows_70
  by_cases c_4 : iv (20 + 4 * mi + t) 0 = 2
  · refine lv_tableIn (tgt := 71) (off := 60) hx hb dX0_allows_11 (by rw [c_4]; decide) (by rw [c_4]; decide) (by rw [c_4]; decide) (by decide) ?_
    refine lv_iload_n hx hb dX0_allows_71 rfl (lv_at hl 3 rfl) ?_
    refine lv_if_ne (tgt := 90) hx hb dX0_allows_72 (by decide) (fun c_5 => ?_) (fun c_5 => ?_)
    · refine lv_iconst (v := 0) hx hb dX0_allows_90 (by decide) ?_
      exact kr_zret hx hb hr hlocks hK hP hD hS (by decide) (by unfold r_aMay; rw [if_neg c_1, if_neg c_3, if_pos c_4, if_neg c_5]) rfl dX0_allows_91
    · refine lv_aload_n hx hb dX0_allows_75 rfl (lv_at hl 1 rfl) ?_
      refine lv_aload_n hx hb dX0_allows_76 rfl (lv_at hl 0 rfl) ?_
      refine kr_callVr (As := [.ref (ad (20 + 4 * mi + t))]) (rest := []) ⟨hx, hb, hml, hown, hts⟩ (c_aMonOf l D gc ad ln iv lv mi t mm hmi (by omega) hmm (okT_pl hT c_4 (by decide)) (hT.2.2.2.1 (Or.inr c_4))) (cwV 1 hts (goodV (fun _ h => tcons h) tw_264 tw_266 ts_2 tw_3 tw_267) rfl rfl rfl (by decide +kernel) ⟨Nat.le_of_ble_eq_true rfl, Nat.le_of_ble_eq_true rfl⟩) (kr_recv hK hP (14 + mi) (by omega) (E_mach hmi _ _ _ _) rfl) hK hP hD hS hA rfl hl.1 rfl (Nat.le_of_ble_eq_true rfl) dX0_allows_77 ⟨Nat.le_of_ble_eq_true rfl, Nat.le_of_ble_eq_true rfl⟩ (fun H locs hP hD hS => ?_)
      refine kr_callVi (As := []) (rest := []) ⟨hx, hb, hml, hown, hts⟩ (c_mIsFree l D gc ad ln iv lv mi mm hmi hmm) (cwV 0 hts (goodV (fun _ h => tcons h) tw_272 tw_273 tw_274 tw_5 tw_275) rfl rfl rfl (by decide +kernel) ⟨Nat.le_of_ble_eq_true rfl, Nat.le_of_ble_eq_true rfl⟩) (kr_recv hK hP (28 + 2 * mi + mm) (by omega) (E_mon (mi := mi) (m := mm) hmi hmm _ _ _ _) rfl) hK hP hD hS hA rfl hl.1 rfl (Nat.le_of_ble_eq_true rfl) dX0_allows_80 ⟨Nat.le_of_ble_eq_true rfl, Nat.le_of_ble_eq_true rfl⟩ (fun H locs hP hD hS => ?_)
      refine kr_tern (M := 91) (cnd := (r_mIsFree iv mi mm) = 0) (a := 0) (b := 1) (rest := []) (fun ja jb => ?_) ?_
      · refine lv_if_eq (tgt := 90) hx hb dX0_allows_83 (by decide) (fun c_6 => ?_) (fun c_6 => ?_)
        · refine lv_iconst (v := 0) hx hb dX0_allows_90 (by decide) ?_
          exact ja c_6
        · refine lv_iconst (v := 1) hx hb dX0_allows_86 (by decide) ?_
          refine lv_goto (tgt := 91) hx hb dX0_allows_87 (by decide) ?_
          exact jb c_6
      exact kr_zret hx hb hr hlocks hK hP hD hS (nb_ite (by decide) (by decide)) (by unfold r_aMay; rw [if_neg c_1, if_neg c_3, if_pos c_4, if_pos c_5]) rfl dX0_allows_91
  by_cases c_7 : iv (20 + 4 * mi + t) 0 = 3
  · refine lv_tableIn (tgt := 92) (off := 81) hx hb dX0_allows_11 (by rw [c_7]; decide) (by rw [c_7]; decide) (by rw [c_7]; decide) (by decide) ?_
    refine lv_iload_n hx hb dX0_allows_92 rfl (lv_at hl 3 rfl) ?_
    refine lv_iconst (v := 1) hx hb dX0_allows_93 (by decide) ?_
    refine lv_icmp_ne (tgt := 104) hx hb dX0_allows_94 (by decide) (fun c_8 => ?_) (fun c_8 => ?_)
    · refine lv_iload_n hx hb dX0_allows_104 rfl (lv_at hl 3 rfl) ?_
      refine lv_iconst (v := 3) hx hb dX0_allows_105 (by decide) ?_
      refine lv_icmp_ne (tgt := 121) hx hb dX0_allows_106 (by decide) (fun c_9 => ?_) (fun c_9 => ?_)
      · refine lv_iconst (v := 0) hx hb dX0_allows_121 (by decide) ?_
        exact kr_zret hx hb hr hlocks hK hP hD hS (by decide) (by unfold r_aMay; rw [if_neg c_1, if_neg c_3, if_neg c_4, if_pos c_7, if_neg c_8, if_neg c_9]) rfl dX0_allows_122
      · refine lv_aload_n hx hb dX0_allows_109 rfl (lv_at hl 1 rfl) ?_
        refine lv_aload_n hx hb dX0_allows_110 rfl (lv_at hl 0 rfl) ?_
        refine kr_callVi (As := [.ref (ad (20 + 4 * mi + t))]) (rest := []) ⟨hx, hb, hml, hown, hts⟩ (c_aStray l D gc ad ln iv lv mi t hmi (by omega)) (cwV 1 hts (goodV (fun _ h => tcons h) tw_288 tw_290 ts_5 tw_3 tw_291) rfl rfl rfl (by decide +kernel) ⟨Nat.le_of_ble_eq_true rfl, Nat.le_of_ble_eq_true rfl⟩) (kr_recv hK hP (14 + mi) (by omega) (E_mach hmi _ _ _ _) rfl) hK hP hD hS hA rfl hl.1 rfl (Nat.le_of_ble_eq_true rfl) dX0_allows_111 ⟨Nat.le_of_ble_eq_true rfl, Nat.le_of_ble_eq_true rfl⟩ (fun H locs hP hD hS => ?_)
        refine kr_tern (M := 122) (cnd := (r_aStray iv mi t) = 0) (a := 0) (b := 1) (rest := []) (fun ja jb => ?_) ?_
        · refine lv_if_eq (tgt := 121) hx hb dX0_allows_114 (by decide) (fun c_10 => ?_) (fun c_10 => ?_)
          · refine lv_iconst (v := 0) hx hb dX0_allows_121 (by decide) ?_
            exact ja c_10
          · refine lv_iconst (v := 1) hx hb dX0_allows_117 (by decide) ?_
            refine lv_goto (tgt := 122) hx hb dX0_allows_118 (by decide) ?_
            exact jb c_10
        exact kr_zret hx hb hr hlocks hK hP hD hS (nb_ite (by decide) (by decide)) (by unfold r_aMay; rw [if_neg c_1, if_neg c_3, if_neg c_4, if_pos c_7, if_neg c_8, if_pos c_9]) rfl dX0_allows_122
    · refine lv_aload_n hx hb dX0_allows_97 rfl (lv_at hl 0 rfl) ?_
      refine kr_get (C := "MonitorWays$Worker") (T := TX5) (N := 8) hx hb hts hin_X5 hown hK hP (20 + 4 * mi + t) (by omega) (E_wk (mi := mi) (t := t) hmi (by omega) _ _ _ _) rfl 3 (by decide) lk_f63 (fun _ h9 => h9) rfl dX0_allows_98 ?_
      refine lv_goto (tgt := 122) hx hb dX0_allows_101 (by decide) ?_
      exact kr_zret hx hb hr hlocks hK hP hD hS hT.2.2.2.2 (by unfold r_aMay; rw [if_neg c_1, if_neg c_3, if_neg c_4, if_pos c_7, if_pos c_8]) rfl dX0_allows_122
  refine lv_tableOut (tgt := 123) hx hb dX0_allows_11 (sw_0_3 c_1 c_3 c_4 c_7) (by decide) ?_
  refine lv_iconst (v := 0) hx hb dX0_allows_123 (by decide) ?_
  exact kr_zret hx hb hr hlocks hK hP hD hS (by decide) (by unfold r_aMay; rw [if_neg c_1, if_neg c_3, if_neg c_4, if_neg c_7]) rfl dX0_allows_124
def m_aTake (iv : Nat → Nat → Int32) (mi t mm u : Nat) (way : Int32) (sz : Nat) : Nat → Nat → Int32 := if iv (20 + 4 * mi + t) 0 = 0 then if 5 < (r_wAction iv mi t) then (m_aPlain iv mi t u) else (m_aUse iv mi t mm way sz) else if iv (20 + 4 * mi + t) 0 = 1 then (m_aLeave iv mi t mm way sz) else if iv (20 + 4 * mi + t) 0 = 2 then (m_aBack iv mi t mm) else if iv (20 + 4 * mi + t) 0 = 3 then (m_aStopPark iv mi t way) else iv
set_option maxHeartbeats 4000000 in
set_option maxRecDepth 100000 in
theorem c_aTake (l : Launch) (D : va_G) (gc : Nat → ClassId) (ad ln : Nat → Nat) (iv : Nat → Nat → Int32) (lv : Nat → Nat → Int64) (mi t mm u : Nat) (hmi : mi < 2) (ht : t < 4) (hmm : mm < 2) (hu : u < 4) (way : Int32) (hT : okT iv mi t mm u) (sz : Nat) (hsz : iv (28 + 2 * mi + mm) 2 = nI sz) (hs4 : sz ≤ 4) (hent : ∀ j, j < sz → vp_in (iv (32 + 2 * mi + mm) j) 4) : kMv l yX0_take wX0_take ({ frames := 3, cells := 0, slots := 0, locals := 72 }) D vwCl (kT gc) 42 (kE gc) [.ref (ad (14 + mi)), .int (nI t), .int way] (ad, ln, iv, lv) (ad, ln, m_aTake iv mi t mm u way sz, lv) := by
  refine kv_start (cc := cX0_take) (maxL := 4) (by decide) rfl (Nat.le_of_ble_eq_true rfl) ?_
  intro p9 e9 s m9 below meth c9 A ls hx hb hr hts hown hlocks hml hA hK hP hD hS hl
  have hl : lv_has ls 4 [(0, .ref (ad (14 + mi))), (1, .int (nI t)), (2, .int way)] := hl
  have hown : s.vm.findClass "MonitorWays$Machine" = some m9.cls := hown
  have hin_X0 : ∀ w ∈ u_ws "MonitorWays$Machine" TX0 3, w ∈ wX0_take := fun w h => tcons (inX0 w h)
  have hin_X5 : ∀ w ∈ u_ws "MonitorWays$Worker" TX5 8, w ∈ wX0_take := fun w h => tcons (inX5 w h)
  have lk_f11 := hts _ (tcons tw_126)
  have lk_f36 := hts _ (tcons tw_58)
  refine lv_aload_n hx hb dX0_take_0 rfl (lv_at hl 0 rfl) ?_
  refine kr_get (C := "MonitorWays$Machine") (T := TX0) (N := 3) hx hb hts hin_X0 hown hK hP (14 + mi) (by omega) (E_mach hmi _ _ _ _) rfl 0 (by decide) lk_f11 (fun _ h9 => h9) rfl dX0_take_1 ?_
  refine lv_iload_n hx hb dX0_take_4 rfl (lv_at hl 1 rfl) ?_
  refine kr_aald (a := ad (20 + 4 * mi + t)) hx hb hK hP (16 + mi) 4 (by omega) (E_warr hmi _ _ _ _) rfl (vp_in_nI (n := t) (by omega) (by decide)) (by rw [nI_clamp (show t < 2 ^ 31 by omega)]) dX0_take_5 ?_
  refine lv_astore_n (lv' := [(3, .ref (ad (20 + 4 * mi + t))), (0, .ref (ad (14 + mi))), (1, .int (nI t)), (2, .int way)]) hx hb dX0_take_6 rfl hl (by decide) rfl (fun ls hl => ?_)
  refine lv_aload_n hx hb dX0_take_7 rfl (lv_at hl 0 rfl) ?_
  refine kr_get (C := "MonitorWays$Worker") (T := TX5) (N := 8) hx hb hts hin_X5 hown hK hP (20 + 4 * mi + t) (by omega) (E_wk (mi := mi) (t := t) hmi (by omega) _ _ _ _) rfl 0 (by decide) lk_f36 (fun _ h9 => h9) rfl dX0_take_8 ?_
  by_cases c_1 : iv (20 + 4 * mi + t) 0 = 0
  · refine lv_tableIn (tgt := 40) (off := 29) hx hb dX0_take_11 (by rw [c_1]; decide) (by rw [c_1]; decide) (by rw [c_1]; decide) (by decide) ?_
    refine lv_aload_n hx hb dX0_take_40 rfl (lv_at hl 0 rfl) ?_
    refine kr_callVi (As := []) (rest := []) ⟨hx, hb, hml, hown, hts⟩ (c_wAction l D gc ad ln iv lv mi t hmi (by omega) (okT_pl hT c_1 (by decide))) (cwV 0 hts (goodV (fun _ h => tcons h) tw_256 tw_257 tw_258 tw_4 tw_259) rfl rfl rfl (by decide +kernel) ⟨Nat.le_of_ble_eq_true rfl, Nat.le_of_ble_eq_true rfl⟩) (kr_recv hK hP (20 + 4 * mi + t) (by omega) (E_wk (mi := mi) (t := t) hmi (by omega) _ _ _ _) rfl) hK hP hD hS hA rfl hl.1 rfl (Nat.le_of_ble_eq_true rfl) dX0_take_41 ⟨Nat.le_of_ble_eq_true rfl, Nat.le_of_ble_eq_true rfl⟩ (fun H locs hP hD hS => ?_)
    refine lv_iconst (v := 5) hx hb dX0_take_44 (by decide) ?_
    refine lv_icmp_gt (tgt := 57) hx hb dX0_take_45 (by decide) (fun c_2 => ?_) (fun c_2 => ?_)
    · refine lv_aload_n hx hb dX0_take_57 rfl (lv_at hl 1 rfl) ?_
      refine lv_aload_n hx hb dX0_take_58 rfl (lv_at hl 0 rfl) ?_
      refine kr_callVv (As := [.ref (ad (20 + 4 * mi + t))]) (rest := []) ⟨hx, hb, hml, hown, hts⟩ (c_aPlain l D gc ad ln iv lv mi t u hmi (by omega) hu (okT_pl hT c_1 (by decide)) (fun h => hT.2.2.1 c_1 (h.elim Or.inl (fun h => Or.inr (Or.inl h)))) hT.2.2.2.2) (cwV 1 hts (goodV (fun _ h => tcons h) tw_341 tw_343 ts_9 tw_3 tw_344) rfl rfl rfl (by decide +kernel) ⟨Nat.le_of_ble_eq_true rfl, Nat.le_of_ble_eq_true rfl⟩) (kr_recv hK hP (14 + mi) (by omega) (E_mach hmi _ _ _ _) rfl) hK hP hD hS hA rfl hl.1 rfl (Nat.le_of_ble_eq_true rfl) dX0_take_59 ⟨Nat.le_of_ble_eq_true rfl, Nat.le_of_ble_eq_true rfl⟩ (fun H locs hP hD hS => ?_)
      refine lv_goto (tgt := 91) hx hb dX0_take_62 (by decide) ?_
      exact kr_vret hx hb hr hlocks hK hP hD hS (by unfold m_aTake; rw [if_pos c_1, if_pos c_2]) dX0_take_91
    · refine lv_aload_n hx hb dX0_take_48 rfl (lv_at hl 1 rfl) ?_
      refine lv_iload_n hx hb dX0_take_49 rfl (lv_at hl 2 rfl) ?_
      refine lv_iload_n hx hb dX0_take_50 rfl (lv_at hl 3 rfl) ?_
      refine kr_callVv (As := [.int (nI t), .int way]) (rest := []) ⟨hx, hb, hml, hown, hts⟩ (c_aUse l D gc ad ln iv lv mi t mm hmi (by omega) hmm way (okT_pl hT c_1 (by decide)) (hT.2.1 c_1 c_2) sz hsz hs4 hent hT.2.2.2.2) (cwV 2 hts (goodV (fun _ h => tcons h) tw_296 tw_298 ts_6 tw_3 tw_299) rfl rfl rfl (by decide +kernel) ⟨Nat.le_of_ble_eq_true rfl, Nat.le_of_ble_eq_true rfl⟩) (kr_recv hK hP (14 + mi) (by omega) (E_mach hmi _ _ _ _) rfl) hK hP hD hS hA rfl hl.1 rfl (Nat.le_of_ble_eq_true rfl) dX0_take_51 ⟨Nat.le_of_ble_eq_true rfl, Nat.le_of_ble_eq_true rfl⟩ (fun H locs hP hD hS => ?_)
      refine lv_goto (tgt := 91) hx hb dX0_take_54 (by decide) ?_
      exact kr_vret hx hb hr hlocks hK hP hD hS (by unfold m_aTake; rw [if_pos c_1, if_neg c_2]) dX0_take_91
  by_cases c_3 : iv (20 + 4 * mi + t) 0 = 1
  · refine lv_tableIn (tgt := 65) (off := 54) hx hb dX0_take_11 (by rw [c_3]; decide) (by rw [c_3]; decide) (by rw [c_3]; decide) (by decide) ?_
    refine lv_aload_n hx hb dX0_take_65 rfl (lv_at hl 1 rfl) ?_
    refine lv_iload_n hx hb dX0_take_66 rfl (lv_at hl 2 rfl) ?_
    refine lv_iload_n hx hb dX0_take_67 rfl (lv_at hl 3 rfl) ?_
    refine kr_callVv (As := [.int (nI t), .int way]) (rest := []) ⟨hx, hb, hml, hown, hts⟩ (c_aLeave l D gc ad ln iv lv mi t mm hmi (by omega) hmm way (okT_pl hT c_3 (by decide)) (hT.2.2.2.1 (Or.inl c_3)) sz hsz hs4) (cwV 2 hts (goodV (fun _ h => tcons h) tw_353 tw_355 ts_12 tw_3 tw_356) rfl rfl rfl (by decide +kernel) ⟨Nat.le_of_ble_eq_true rfl, Nat.le_of_ble_eq_true rfl⟩) (kr_recv hK hP (14 + mi) (by omega) (E_mach hmi _ _ _ _) rfl) hK hP hD hS hA rfl hl.1 rfl (Nat.le_of_ble_eq_true rfl) dX0_take_68 ⟨Nat.le_of_ble_eq_true rfl, Nat.le_of_ble_eq_true rfl⟩ (fun H locs hP hD hS => ?_)
    refine lv_goto (tgt := 91) hx hb dX0_take_71 (by decide) ?_
    exact kr_vret hx hb hr hlocks hK hP hD hS (by unfold m_aTake; rw [if_neg c_1, if_pos c_3]) dX0_take_91
  by_cases c_4 : iv (20 + 4 * mi + t) 0 = 2
  · refine lv_tableIn (tgt := 74) (off := 63) hx hb dX0_take_11 (by rw [c_4]; decide) (by rw [c_4]; decide) (by rw [c_4]; decide) (by decide) ?_
    refine lv_aload_n hx hb dX0_take_74 rfl (lv_at hl 1 rfl) ?_
    refine lv_iload_n hx hb dX0_take_75 rfl (lv_at hl 2 rfl) ?_
    refine kr_callVv (As := [.int (nI t)]) (rest := []) ⟨hx, hb, hml, hown, hts⟩ (c_aBack l D gc ad ln iv lv mi t mm hmi (by omega) hmm (okT_pl hT c_4 (by decide)) (hT.2.2.2.1 (Or.inr c_4))) (cwV 1 hts (goodV (fun _ h => tcons h) tw_357 tw_359 ts_13 tw_3 tw_360) rfl rfl rfl (by decide +kernel) ⟨Nat.le_of_ble_eq_true rfl, Nat.le_of_ble_eq_true rfl⟩) (kr_recv hK hP (14 + mi) (by omega) (E_mach hmi _ _ _ _) rfl) hK hP hD hS hA rfl hl.1 rfl (Nat.le_of_ble_eq_true rfl) dX0_take_76 ⟨Nat.le_of_ble_eq_true rfl, Nat.le_of_ble_eq_true rfl⟩ (fun H locs hP hD hS => ?_)
    refine lv_goto (tgt := 91) hx hb dX0_take_79 (by decide) ?_
    exact kr_vret hx hb hr hlocks hK hP hD hS (by unfold m_aTake; rw [if_neg c_1, if_neg c_3, if_pos c_4]) dX0_take_91
  by_cases c_5 : iv (20 + 4 * mi + t) 0 = 3
  · refine lv_tableIn (tgt := 82) (off := 71) hx hb dX0_take_11 (by rw [c_5]; decide) (by rw [c_5]; decide) (by rw [c_5]; decide) (by decide) ?_
    refine lv_aload_n hx hb dX0_take_82 rfl (lv_at hl 1 rfl) ?_
    refine lv_aload_n hx hb dX0_take_83 rfl (lv_at hl 0 rfl) ?_
    refine lv_iload_n hx hb dX0_take_84 rfl (lv_at hl 3 rfl) ?_
    refine kr_callVv (As := [.ref (ad (20 + 4 * mi + t)), .int way]) (rest := []) ⟨hx, hb, hml, hown, hts⟩ (c_aStopPark l D gc ad ln iv lv mi t hmi (by omega) way) (cwV 2 hts (goodV (fun _ h => tcons h) tw_361 tw_363 ts_14 tw_3 tw_364) rfl rfl rfl (by decide +kernel) ⟨Nat.le_of_ble_eq_true rfl, Nat.le_of_ble_eq_true rfl⟩) (kr_recv hK hP (14 + mi) (by omega) (E_mach hmi _ _ _ _) rfl) hK hP hD hS hA rfl hl.1 rfl (Nat.le_of_ble_eq_true rfl) dX0_take_85 ⟨Nat.le_of_ble_eq_true rfl, Nat.le_of_ble_eq_true rfl⟩ (fun H locs hP hD hS => ?_)
    refine lv_goto (tgt := 91) hx hb dX0_take_88 (by decide) ?_
    exact kr_vret hx hb hr hlocks hK hP hD hS (by unfold m_aTake; rw [if_neg c_1, if_neg c_3, if_neg c_4, if_pos c_5]) dX0_take_91
  refine lv_tableOut (tgt := 91) hx hb dX0_take_11 (sw_0_3 c_1 c_3 c_4 c_5) (by decide) ?_
  exact kr_vret hx hb hr hlocks hK hP hD hS (by unfold m_aTake; rw [if_neg c_1, if_neg c_3, if_neg c_4, if_neg c_5]) dX0_take_91
