theorem dropL_row {c a : Nat} {x : Int32} {sz : Nat} (h : a ≠ c) : ∀ (k lf : Nat) (iv : Nat → Nat → Int32), (dropL c x sz k lf iv).1 a = iv a
  | 0, _, _ => rfl
  | k + 1, lf, iv => by
    rw [dropL]
    split
    · exact dropL_row h k lf iv
    · rw [dropL_row h k (lf + 1) _, up2_c h]
theorem dropL_ok {P : Int32 → Prop} {c : Nat} {x : Int32} {sz : Nat} : ∀ (k lf : Nat) (iv : Nat → Nat → Int32), lf + k ≤ sz → (∀ j, j < lf → P (iv c j)) → (∀ j, sz - k ≤ j → j < sz → P (iv c j)) → (dropL c x sz k lf iv).2 ≤ lf + k ∧ ∀ j, j < (dropL c x sz k lf iv).2 → P ((dropL c x sz k lf iv).1 c j)
  | 0, lf, iv => fun _ h1 _ => ⟨Nat.le_refl _, h1⟩
  | k + 1, lf, iv => by
    intro hk h1 h2
    rw [dropL]
    split
    · obtain ⟨a, b⟩ := dropL_ok (P := P) (c := c) (x := x) (sz := sz) k lf iv (by omega) h1 (fun j q1 q2 => h2 j (by omega) q2)
      exact ⟨by omega, b⟩
    · obtain ⟨a, b⟩ := dropL_ok (P := P) (c := c) (x := x) (sz := sz) k (lf + 1) (up2 iv c lf (iv c (sz - (k + 1)))) (by omega) (fun j q1 => by
        by_cases hj : j = lf
        · rw [hj, up2_s]; exact h2 _ (by omega) (by omega)
        · rw [up2_k hj]; exact h1 j (by omega)) (fun j q1 q2 => by rw [up2_k (by omega)]; exact h2 j (by omega) q2)
      exact ⟨by omega, b⟩
/-- the set of monitor mm holds threads -/
def okS (iv : Nat → Nat → Int32) (mi mm : Nat) : Prop := vp_in (iv (28 + 2 * mi + mm) 2) 5 ∧ ∀ j, j < (iv (28 + 2 * mi + mm) 2).toNatClampNeg → vp_in (iv (32 + 2 * mi + mm) j) 4
theorem vn_eq {x : Int32} {N : Nat} (h : vp_in x N) : x = nI x.toNatClampNeg := by
  obtain ⟨j, hj, rfl⟩ := nI_of (fun q => h (Or.inl q))
  rw [nI_clamp hj]
theorem okS_of {iv : Nat → Nat → Int32} {mi mm sz : Nat} (hsz : iv (28 + 2 * mi + mm) 2 = nI sz) (hs4 : sz ≤ 4) (hent : ∀ j, j < sz → vp_in (iv (32 + 2 * mi + mm) j) 4) : okS iv mi mm := by
  refine ⟨by rw [hsz]; exact vp_in_nI (by omega) (by decide), fun j hj => ?_⟩
  rw [hsz, nI_clamp (by omega)] at hj
  exact hent j hj
theorem okS_notify {iv : Nat → Nat → Int32} {mi mm : Nat} {k : Int32} (hmi : mi < 2) (hmm : mm < 2) (h : okS iv mi mm) : okS (m_aNotify iv mi mm k (iv (28 + 2 * mi + mm) 2).toNatClampNeg) mi mm := by
  have hsz := vn_eq h.1
  have hs5 := vn_lt h.1
  generalize hn : (iv (28 + 2 * mi + mm) 2).toNatClampNeg = sz at *
  unfold m_aNotify
  by_cases hr : r_mWaiter iv mi mm k = -1
  · rw [if_pos hr]; exact okS_of hsz (by omega) (fun j hj => h.2 j (by rw [hn]; exact hj))
  · rw [if_neg hr]
    have hv := vn_lt (hv_of hsz (by omega) (fun j hj => h.2 j (by rw [hn]; exact hj)) hr)
    obtain ⟨a, b⟩ := dropL_ok (P := fun x => vp_in x 4) (c := 32 + 2 * mi + mm) (x := r_mWaiter iv mi mm k) (sz := sz) sz 0 iv (by omega) (fun j h => absurd h (Nat.not_lt_zero _)) (fun j _ q => h.2 j (by rw [hn]; exact q))
    refine okS_of (sz := (dropL (32 + 2 * mi + mm) (r_mWaiter iv mi mm k) sz sz 0 iv).2) ?_ (by omega) (fun j hj => ?_)
    · rw [up2_ne (by omega)]; unfold m_wPut; rw [up2_ne (by omega)]; unfold m_mDrop; rw [up2_s]
    · rw [up2_ne (by omega)]; unfold m_wPut; rw [up2_ne (by omega)]; unfold m_mDrop; rw [up2_ne (by omega)]; exact b j hj
/-- NOTIFY ALL: k times the first one -/
def nAll (mi mm : Nat) : Nat → (Nat → Nat → Int32) → Nat → Nat → Int32
  | 0, iv => iv
  | k + 1, iv => nAll mi mm k (m_aNotify iv mi mm 0 (iv (28 + 2 * mi + mm) 2).toNatClampNeg)
theorem nAll_s {mi mm k : Nat} {iv : Nat → Nat → Int32} (h : 0 < k) : nAll mi mm (k - 1) (m_aNotify iv mi mm 0 (iv (28 + 2 * mi + mm) 2).toNatClampNeg) = nAll mi mm k iv := by
  obtain ⟨j, rfl⟩ : ∃ j, k = j + 1 := ⟨k - 1, by omega⟩
  rfl
theorem gt0_of {k : Nat} (hk : k < 2 ^ 31) (h : ¬ nI k ≤ 0) : 0 < k := by
  rcases Nat.eq_zero_or_pos k with rfl | h1
  · exact absurd (Int32.le_refl 0) h
  · exact h1
theorem eq0_of {k : Nat} (hk : k < 2 ^ 31) (h : nI k ≤ 0) : k = 0 := by
  rcases Nat.eq_zero_or_pos k with h1 | h1
  · exact h1
  · exact absurd h (nI_nle h1 hk)
def m_aUse (iv : Nat → Nat → Int32) (mi t mm : Nat) (way : Int32) (sz : Nat) : Nat → Nat → Int32 := if (r_wAction iv mi t) = 0 then (m_wRunOn (m_mOwn iv mi mm (nI t) ((iv (28 + 2 * mi + mm) 1) + 1)) mi t) else if iv (28 + 2 * mi + mm) 0 = nI t then if (r_wAction iv mi t) = 1 then (m_wRunOn (m_mLeave iv mi mm) mi t) else if (r_wAction iv mi t) = 4 then if way = 1 then (m_wRunOn (m_aNotify iv mi mm 0 sz) mi t) else (m_wRunOn (m_aNotify iv mi mm ((nI sz) - 1) sz) mi t) else if (r_wAction iv mi t) = 5 then (m_wRunOn (nAll mi mm sz iv) mi t) else if (r_wTakeInt iv mi t) = 0 then (m_aInto (m_wTakeInt iv mi t) mi t mm sz) else (m_wRunOn (m_wPut (m_wTakeInt iv mi t) mi t 1) mi t) else (m_wRunOn (m_wPut iv mi t 0) mi t)
set_option maxHeartbeats 4000000 in
set_option maxRecDepth 100000 in
theorem c_aUse (l : Launch) (D : va_G) (gc : Nat → ClassId) (ad ln : Nat → Nat) (iv : Nat → Nat → Int32) (lv : Nat → Nat → Int64) (mi t mm : Nat) (hmi : mi < 2) (ht : t < 4) (hmm : mm < 2) (way : Int32) (hpl : vp_in (iv (20 + 4 * mi + t) 1) 6) (hop : r_wOperand iv mi t = nI mm) (sz : Nat) (hsz : iv (28 + 2 * mi + mm) 2 = nI sz) (hs4 : sz ≤ 4) (hent : ∀ j, j < sz → vp_in (iv (32 + 2 * mi + mm) j) 4) (hz : narrow .boolean (.int (iv (20 + 4 * mi + t) 3)) = .int (iv (20 + 4 * mi + t) 3)) : kMv l yX0_useMonitor wX0_useMonitor ({ frames := 2, cells := 0, slots := 0, locals := 46 }) D vwCl (kT gc) 42 (kE gc) [.ref (ad (14 + mi)), .int (nI t), .int way] (ad, ln, iv, lv) (ad, ln, m_aUse iv mi t mm way sz, lv) := by
  refine kv_start (cc := cX0_useMonitor) (maxL := 7) (by decide) rfl (Nat.le_of_ble_eq_true rfl) ?_
  intro p9 e9 s m9 below meth c9 A ls hx hb hr hts hown hlocks hml hA hK hP hD hS hl
  have hl : lv_has ls 7 [(0, .ref (ad (14 + mi))), (1, .int (nI t)), (2, .int way)] := hl
  have hown : s.vm.findClass "MonitorWays$Machine" = some m9.cls := hown
  have hin_X0 : ∀ w ∈ u_ws "MonitorWays$Machine" TX0 3, w ∈ wX0_useMonitor := fun w h => tcons (inX0 w h)
  have hin_X1 : ∀ w ∈ u_ws "MonitorWays$Monitor" TX1 4, w ∈ wX0_useMonitor := fun w h => tcons (inX1 w h)
  have lk_f11 := hts _ (tcons tw_126)
  have lk_f70 := hts _ (tcons tw_93)
  have lk_f73 := hts _ (tcons tw_99)
  have lk_f105 := hts _ (tcons tw_97)
  refine lv_aload_n hx hb dX0_useMonitor_0 rfl (lv_at hl 0 rfl) ?_
  refine kr_get (C := "MonitorWays$Machine") (T := TX0) (N := 3) hx hb hts hin_X0 hown hK hP (14 + mi) (by omega) (E_mach hmi _ _ _ _) rfl 0 (by decide) lk_f11 (fun _ h9 => h9) rfl dX0_useMonitor_1 ?_
  refine lv_iload_n hx hb dX0_useMonitor_4 rfl (lv_at hl 1 rfl) ?_
  refine kr_aald (a := ad (20 + 4 * mi + t)) hx hb hK hP (16 + mi) 4 (by omega) (E_warr hmi _ _ _ _) rfl (vp_in_nI (n := t) (by omega) (by decide)) (by rw [nI_clamp (show t < 2 ^ 31 by omega)]) dX0_useMonitor_5 ?_
  refine lv_astore_n (lv' := [(3, .ref (ad (20 + 4 * mi + t))), (0, .ref (ad (14 + mi))), (1, .int (nI t)), (2, .int way)]) hx hb dX0_useMonitor_6 rfl hl (by decide) rfl (fun ls hl => ?_)
  refine lv_aload_n hx hb dX0_useMonitor_7 rfl (lv_at hl 1 rfl) ?_
  refine lv_aload_n hx hb dX0_useMonitor_8 rfl (lv_at hl 0 rfl) ?_
  refine kr_callVr (As := [.ref (ad (20 + 4 * mi + t))]) (rest := []) ⟨hx, hb, hml, hown, hts⟩ (c_aMonOf l D gc ad ln iv lv mi t mm hmi (by omega) hmm hpl hop) (cwV 1 hts (goodV (fun _ h => tcons h) tw_264 tw_266 ts_2 tw_3 tw_267) rfl rfl rfl (by decide +kernel) ⟨Nat.le_of_ble_eq_true rfl, Nat.le_of_ble_eq_true rfl⟩) (kr_recv hK hP (14 + mi) (by omega) (E_mach hmi _ _ _ _) rfl) hK hP hD hS hA rfl hl.1 rfl (Nat.le_of_ble_eq_true rfl) dX0_useMonitor_9 ⟨Nat.le_of_ble_eq_true rfl, Nat.le_of_ble_eq_true rfl⟩ (fun H locs hP hD hS => ?_)
  refine lv_astore (lv' := [(4, .ref (ad (28 + 2 * mi + mm))), (3, .ref (ad (20 + 4 * mi + t))), (0, .ref (ad (14 + mi))), (1, .int (nI t)), (2, .int way)]) hx hb dX0_useMonitor_12 hl (by decide) rfl (fun ls hl => ?_)
  refine lv_aload_n hx hb dX0_useMonitor_14 rfl (lv_at hl 1 rfl) ?_
  refine kr_callVi (As := []) (rest := []) ⟨hx, hb, hml, hown, hts⟩ (c_wAction l D gc ad ln iv lv mi t hmi (by omega) hpl) (cwV 0 hts (goodV (fun _ h => tcons h) tw_256 tw_257 tw_258 tw_4 tw_259) rfl rfl rfl (by decide +kernel) ⟨Nat.le_of_ble_eq_true rfl, Nat.le_of_ble_eq_true rfl⟩) (kr_recv hK hP (20 + 4 * mi + t) (by omega) (E_wk (mi := mi) (t := t) hmi (by omega) _ _ _ _) rfl) hK hP hD hS hA rfl hl.1 rfl (Nat.le_of_ble_eq_true rfl) dX0_useMonitor_15 ⟨Nat.le_of_ble_eq_true rfl, Nat.le_of_ble_eq_true rfl⟩ (fun H locs hP hD hS => ?_)
  refine lv_istore (lv' := [(5, .int (r_wAction iv mi t)), (4, .ref (ad (28 + 2 * mi + mm))), (3, .ref (ad (20 + 4 * mi + t))), (0, .ref (ad (14 + mi))), (1, .int (nI t)), (2, .int way)]) hx hb dX0_useMonitor_18 hl (by decide) rfl (fun ls hl => ?_)
  refine lv_iload hx hb dX0_useMonitor_20 (lv_at hl 0 rfl) ?_
  refine lv_if_ne (tgt := 41) hx hb dX0_useMonitor_22 (by decide) (fun c_1 => ?_) (fun c_1 => ?_)
  · refine lv_aload hx hb dX0_useMonitor_41 (lv_at hl 1 rfl) ?_
    refine kr_get (C := "MonitorWays$Monitor") (T := TX1) (N := 4) hx hb hts hin_X1 hown hK hP (28 + 2 * mi + mm) (by omega) (E_mon (mi := mi) (m := mm) hmi hmm _ _ _ _) rfl 0 (by decide) lk_f70 (fun _ h9 => h9) rfl dX0_useMonitor_43 ?_
    refine lv_iload_n hx hb dX0_useMonitor_46 rfl (lv_at hl 4 rfl) ?_
    refine lv_icmp_eq (tgt := 58) hx hb dX0_useMonitor_47 (by decide) (fun c_2 => ?_) (fun c_2 => ?_)
    · refine lv_iload hx hb dX0_useMonitor_58 (lv_at hl 0 rfl) ?_
      refine lv_iconst (v := 1) hx hb dX0_useMonitor_60 (by decide) ?_
      refine lv_icmp_ne (tgt := 72) hx hb dX0_useMonitor_61 (by decide) (fun c_3 => ?_) (fun c_3 => ?_)
      · refine lv_iload hx hb dX0_useMonitor_72 (lv_at hl 0 rfl) ?_
        refine lv_iconst (v := 4) hx hb dX0_useMonitor_74 (by decide) ?_
        refine lv_icmp_ne (tgt := 103) hx hb dX0_useMonitor_75 (by decide) (fun c_4 => ?_) (fun c_4 => ?_)
        · refine lv_iload hx hb dX0_useMonitor_103 (lv_at hl 0 rfl) ?_
          refine lv_iconst (v := 5) hx hb dX0_useMonitor_105 (by decide) ?_
          refine lv_icmp_ne (tgt := 137) hx hb dX0_useMonitor_106 (by decide) (fun c_5 => ?_) (fun c_5 => ?_)
          · refine lv_aload_n hx hb dX0_useMonitor_137 rfl (lv_at hl 2 rfl) ?_
            refine kr_callVi (As := []) (rest := []) ⟨hx, hb, hml, hown, hts⟩ (c_wTakeInt l D gc ad ln iv lv mi t hmi (by omega) hz) (cwV 0 hts (goodV (fun _ h => tcons h) tw_324 tw_325 tw_326 tw_4 tw_327) rfl rfl rfl (by decide +kernel) ⟨Nat.le_of_ble_eq_true rfl, Nat.le_of_ble_eq_true rfl⟩) (kr_recv hK hP (20 + 4 * mi + t) (by omega) (E_wk (mi := mi) (t := t) hmi (by omega) _ _ _ _) rfl) hK hP hD hS hA rfl hl.1 rfl (Nat.le_of_ble_eq_true rfl) dX0_useMonitor_138 ⟨Nat.le_of_ble_eq_true rfl, Nat.le_of_ble_eq_true rfl⟩ (fun H locs hP hD hS => ?_)
            refine lv_if_eq (tgt := 152) hx hb dX0_useMonitor_141 (by decide) (fun c_6 => ?_) (fun c_6 => ?_)
            · refine lv_aload_n hx hb dX0_useMonitor_152 rfl (lv_at hl 3 rfl) ?_
              refine lv_iload_n hx hb dX0_useMonitor_153 rfl (lv_at hl 4 rfl) ?_
              refine lv_aload hx hb dX0_useMonitor_154 (lv_at hl 1 rfl) ?_
              refine kr_callVv (As := [.int (nI t), .ref (ad (28 + 2 * mi + mm))]) (rest := []) ⟨hx, hb, hml, hown, hts⟩ (c_aInto l D gc ad ln (m_wTakeInt iv mi t) lv mi t mm hmi (by omega) hmm sz (by unfold m_wTakeInt; rw [up2_ne (by omega)]; exact hsz) hs4) (cwV 2 hts (goodV (fun _ h => tcons h) tw_328 tw_330 ts_8 tw_3 tw_331) rfl rfl rfl (by decide +kernel) ⟨Nat.le_of_ble_eq_true rfl, Nat.le_of_ble_eq_true rfl⟩) (kr_recv hK hP (14 + mi) (by omega) (E_mach hmi _ _ _ _) rfl) hK hP hD hS hA rfl hl.1 rfl (Nat.le_of_ble_eq_true rfl) dX0_useMonitor_156 ⟨Nat.le_of_ble_eq_true rfl, Nat.le_of_ble_eq_true rfl⟩ (fun H locs hP hD hS => ?_)
              exact kr_vret hx hb hr hlocks hK hP hD hS (by unfold m_aUse; rw [if_neg c_1, if_pos c_2, if_neg c_3, if_neg c_4, if_neg c_5, if_pos c_6]) dX0_useMonitor_159
            · refine lv_aload_n hx hb dX0_useMonitor_144 rfl (lv_at hl 2 rfl) ?_
              refine lv_iconst (v := 1) hx hb dX0_useMonitor_145 (by decide) ?_
              refine kr_callVv (As := [.int 1]) (rest := []) ⟨hx, hb, hml, hown, hts⟩ (c_wPut l D gc ad ln (m_wTakeInt iv mi t) lv mi t hmi (by omega) 1) (cwV 1 hts (goodV (fun _ h => tcons h) tw_304 tw_305 tw_306 tw_4 tw_307) rfl rfl rfl (by decide +kernel) ⟨Nat.le_of_ble_eq_true rfl, Nat.le_of_ble_eq_true rfl⟩) (kr_recv hK hP (20 + 4 * mi + t) (by omega) (E_wk (mi := mi) (t := t) hmi (by omega) _ _ _ _) rfl) hK hP hD hS hA rfl hl.1 rfl (Nat.le_of_ble_eq_true rfl) dX0_useMonitor_146 ⟨Nat.le_of_ble_eq_true rfl, Nat.le_of_ble_eq_true rfl⟩ (fun H locs hP hD hS => ?_)
              refine lv_goto (tgt := 160) hx hb dX0_useMonitor_149 (by decide) ?_
              refine lv_aload_n hx hb dX0_useMonitor_160 rfl (lv_at hl 2 rfl) ?_
              refine kr_callVv (As := []) (rest := []) ⟨hx, hb, hml, hown, hts⟩ (c_wRunOn l D gc ad ln (m_wPut (m_wTakeInt iv mi t) mi t 1) lv mi t hmi (by omega)) (cwV 0 hts (goodV (fun _ h => tcons h) tw_337 tw_338 tw_339 tw_4 tw_340) rfl rfl rfl (by decide +kernel) ⟨Nat.le_of_ble_eq_true rfl, Nat.le_of_ble_eq_true rfl⟩) (kr_recv hK hP (20 + 4 * mi + t) (by omega) (E_wk (mi := mi) (t := t) hmi (by omega) _ _ _ _) rfl) hK hP hD hS hA rfl hl.1 rfl (Nat.le_of_ble_eq_true rfl) dX0_useMonitor_161 ⟨Nat.le_of_ble_eq_true rfl, Nat.le_of_ble_eq_true rfl⟩ (fun H locs hP hD hS => ?_)
              exact kr_vret hx hb hr hlocks hK hP hD hS (by unfold m_aUse; rw [if_neg c_1, if_pos c_2, if_neg c_3, if_neg c_4, if_neg c_5, if_neg c_6]) dX0_useMonitor_164
          · refine lv_aload hx hb dX0_useMonitor_109 (lv_at hl 1 rfl) ?_
            refine kr_get (C := "MonitorWays$Monitor") (T := TX1) (N := 4) hx hb hts hin_X1 hown hK hP (28 + 2 * mi + mm) (by omega) (E_mon (mi := mi) (m := mm) hmi hmm _ _ _ _) rfl 2 (by decide) lk_f73 (fun _ h9 => h9) rfl dX0_useMonitor_111 ?_
            refine kr_topi (y := nI sz) hsz ?_
            refine lv_istore (lv' := [(6, .int (nI sz)), (5, .int (r_wAction iv mi t)), (4, .ref (ad (28 + 2 * mi + mm))), (3, .ref (ad (20 + 4 * mi + t))), (0, .ref (ad (14 + mi))), (1, .int (nI t)), (2, .int way)]) hx hb dX0_useMonitor_114 hl (by decide) rfl (fun ls hl => ?_)
            refine kr_loop (σ := Nat × ((Nat → Nat → Int32))) (fun z9 => match z9 with | (lf, ivk) => lf) (fun z9 H locs ls => match z9 with | (lf, ivk) => (lf ≤ 4) ∧ (okS ivk mi mm) ∧ (nAll mi mm lf ivk = nAll mi mm sz iv) ∧ va_P D vwCl (mW 42 (kE gc) (ad, ln, ivk, lv)) H ∧ va_D A (mW 42 (kE gc) (ad, ln, ivk, lv)) ∧ va_S A s.heap H locs ∧ lv_has ls 7 [(0, .ref (ad (14 + mi))), (1, .int (nI t)), (2, .int way), (3, .ref (ad (20 + 4 * mi + t))), (4, .ref (ad (28 + 2 * mi + mm))), (5, .int (r_wAction iv mi t)), (6, .int (nI lf))]) 116 (sz, iv) ⟨hs4, (okS_of hsz hs4 hent), rfl, hP, hD, hS, lv_sub hl [4, 5, 6, 3, 2, 1, 0] rfl⟩ ?_
            intro z9 H locs ls hI ih
            obtain ⟨lf, ivk⟩ := z9
            obtain ⟨hlf, hok, heq, hP, hD, hS, hl⟩ := hI
            refine lv_iload hx hb dX0_useMonitor_116 (lv_at hl 6 rfl) ?_
            refine lv_if_le (tgt := 134) hx hb dX0_useMonitor_118 (by decide) (fun c_7 => ?_) (fun c_7 => ?_)
            · have hl0 := eq0_of (by omega) c_7
              subst hl0
              have hke : ivk = nAll mi mm sz iv := heq
              subst hke
              refine lv_goto (tgt := 160) hx hb dX0_useMonitor_134 (by decide) ?_
              refine lv_aload_n hx hb dX0_useMonitor_160 rfl (lv_at hl 3 rfl) ?_
              refine kr_callVv (As := []) (rest := []) ⟨hx, hb, hml, hown, hts⟩ (c_wRunOn l D gc ad ln (nAll mi mm sz iv) lv mi t hmi (by omega)) (cwV 0 hts (goodV (fun _ h => tcons h) tw_337 tw_338 tw_339 tw_4 tw_340) rfl rfl rfl (by decide +kernel) ⟨Nat.le_of_ble_eq_true rfl, Nat.le_of_ble_eq_true rfl⟩) (kr_recv hK hP (20 + 4 * mi + t) (by omega) (E_wk (mi := mi) (t := t) hmi (by omega) _ _ _ _) rfl) hK hP hD hS hA rfl hl.1 rfl (Nat.le_of_ble_eq_true rfl) dX0_useMonitor_161 ⟨Nat.le_of_ble_eq_true rfl, Nat.le_of_ble_eq_true rfl⟩ (fun H locs hP hD hS => ?_)
              exact kr_vret hx hb hr hlocks hK hP hD hS (by unfold m_aUse; rw [if_neg c_1, if_pos c_2, if_neg c_3, if_neg c_4, if_pos c_5]) dX0_useMonitor_164
            · have hpos := gt0_of (by omega) c_7
              refine lv_aload_n hx hb dX0_useMonitor_121 rfl (lv_at hl 0 rfl) ?_
              refine lv_aload hx hb dX0_useMonitor_122 (lv_at hl 4 rfl) ?_
              refine lv_iconst (v := 0) hx hb dX0_useMonitor_124 (by decide) ?_
              refine kr_callVv (As := [.ref (ad (28 + 2 * mi + mm)), .int 0]) (rest := []) ⟨hx, hb, hml, hown, hts⟩ (c_aNotify l D gc ad ln ivk lv mi mm hmi hmm 0 ((ivk (28 + 2 * mi + mm) 2).toNatClampNeg) (vn_eq hok.1) (Nat.le_of_lt_succ (vn_lt hok.1)) hok.2) (cwV 2 hts (goodV (fun _ h => tcons h) tw_312 tw_314 ts_7 tw_3 tw_315) rfl rfl rfl (by decide +kernel) ⟨Nat.le_of_ble_eq_true rfl, Nat.le_of_ble_eq_true rfl⟩) (kr_recv hK hP (14 + mi) (by omega) (E_mach hmi _ _ _ _) rfl) hK hP hD hS hA rfl hl.1 rfl (Nat.le_of_ble_eq_true rfl) dX0_useMonitor_125 ⟨Nat.le_of_ble_eq_true rfl, Nat.le_of_ble_eq_true rfl⟩ (fun H locs hP hD hS => ?_)
              refine lv_iinc (v := nI (lf - 1)) (lv' := [(6, .int (nI (lf - 1))), (0, .ref (ad (14 + mi))), (1, .int (nI t)), (2, .int way), (3, .ref (ad (20 + 4 * mi + t))), (4, .ref (ad (28 + 2 * mi + mm))), (5, .int (r_wAction iv mi t))]) hx hb dX0_useMonitor_128 hl (k := 6) rfl (sb_m1 hpos) (by decide) rfl (fun ls hl => ?_)
              refine lv_goto (tgt := 116) hx hb dX0_useMonitor_131 (by decide) ?_
              exact ih (lf - 1, (m_aNotify ivk mi mm 0 (ivk (28 + 2 * mi + mm) 2).toNatClampNeg)) H locs ls ⟨by omega, (okS_notify hmi hmm hok), (nAll_s hpos).trans heq, hP, hD, hS, lv_sub hl [1, 2, 3, 4, 5, 6, 0] rfl⟩ (by show (lf - 1) < lf; omega)
        · refine lv_aload_n hx hb dX0_useMonitor_78 rfl (lv_at hl 3 rfl) ?_
          refine lv_aload hx hb dX0_useMonitor_79 (lv_at hl 1 rfl) ?_
          refine lv_iload_n hx hb dX0_useMonitor_81 rfl (lv_at hl 5 rfl) ?_
          refine lv_iconst (v := 1) hx hb dX0_useMonitor_82 (by decide) ?_
          refine lv_icmp_ne (tgt := 90) hx hb dX0_useMonitor_83 (by decide) (fun c_8 => ?_) (fun c_8 => ?_)
          · refine lv_aload hx hb dX0_useMonitor_90 (lv_at hl 1 rfl) ?_
            refine kr_get (C := "MonitorWays$Monitor") (T := TX1) (N := 4) hx hb hts hin_X1 hown hK hP (28 + 2 * mi + mm) (by omega) (E_mon (mi := mi) (m := mm) hmi hmm _ _ _ _) rfl 2 (by decide) lk_f73 (fun _ h9 => h9) rfl dX0_useMonitor_92 ?_
            refine kr_topi (y := nI sz) hsz ?_
            refine lv_iconst (v := 1) hx hb dX0_useMonitor_95 (by decide) ?_
            refine lv_isub hx hb dX0_useMonitor_96 ?_
            refine kr_callVv (As := [.ref (ad (28 + 2 * mi + mm)), .int ((nI sz) - 1)]) (rest := []) ⟨hx, hb, hml, hown, hts⟩ (c_aNotify l D gc ad ln iv lv mi mm hmi hmm ((nI sz) - 1) sz hsz hs4 hent) (cwV 2 hts (goodV (fun _ h => tcons h) tw_312 tw_314 ts_7 tw_3 tw_315) rfl rfl rfl (by decide +kernel) ⟨Nat.le_of_ble_eq_true rfl, Nat.le_of_ble_eq_true rfl⟩) (kr_recv hK hP (14 + mi) (by omega) (E_mach hmi _ _ _ _) rfl) hK hP hD hS hA rfl hl.1 rfl (Nat.le_of_ble_eq_true rfl) dX0_useMonitor_97 ⟨Nat.le_of_ble_eq_true rfl, Nat.le_of_ble_eq_true rfl⟩ (fun H locs hP hD hS => ?_)
            refine lv_goto (tgt := 160) hx hb dX0_useMonitor_100 (by decide) ?_
            refine lv_aload_n hx hb dX0_useMonitor_160 rfl (lv_at hl 2 rfl) ?_
            refine kr_callVv (As := []) (rest := []) ⟨hx, hb, hml, hown, hts⟩ (c_wRunOn l D gc ad ln (m_aNotify iv mi mm ((nI sz) - 1) sz) lv mi t hmi (by omega)) (cwV 0 hts (goodV (fun _ h => tcons h) tw_337 tw_338 tw_339 tw_4 tw_340) rfl rfl rfl (by decide +kernel) ⟨Nat.le_of_ble_eq_true rfl, Nat.le_of_ble_eq_true rfl⟩) (kr_recv hK hP (20 + 4 * mi + t) (by omega) (E_wk (mi := mi) (t := t) hmi (by omega) _ _ _ _) rfl) hK hP hD hS hA rfl hl.1 rfl (Nat.le_of_ble_eq_true rfl) dX0_useMonitor_161 ⟨Nat.le_of_ble_eq_true rfl, Nat.le_of_ble_eq_true rfl⟩ (fun H locs hP hD hS => ?_)
            exact kr_vret hx hb hr hlocks hK hP hD hS (by unfold m_aUse; rw [if_neg c_1, if_pos c_2, if_neg c_3, if_pos c_4, if_neg c_8]) dX0_useMonitor_164
          · refine lv_iconst (v := 0) hx hb dX0_useMonitor_86 (by decide) ?_
            refine lv_goto (tgt := 97) hx hb dX0_useMonitor_87 (by decide) ?_
            refine kr_callVv (As := [.ref (ad (28 + 2 * mi + mm)), .int 0]) (rest := []) ⟨hx, hb, hml, hown, hts⟩ (c_aNotify l D gc ad ln iv lv mi mm hmi hmm 0 sz hsz hs4 hent) (cwV 2 hts (goodV (fun _ h => tcons h) tw_312 tw_314 ts_7 tw_3 tw_315) rfl rfl rfl (by decide +kernel) ⟨Nat.le_of_ble_eq_true rfl, Nat.le_of_ble_eq_true rfl⟩) (kr_recv hK hP (14 + mi) (by omega) (E_mach hmi _ _ _ _) rfl) hK hP hD hS hA rfl hl.1 rfl (Nat.le_of_ble_eq_true rfl) dX0_useMonitor_97 ⟨Nat.le_of_ble_eq_true rfl, Nat.le_of_ble_eq_true rfl⟩ (fun H locs hP hD hS => ?_)
            refine lv_goto (tgt := 160) hx hb dX0_useMonitor_100 (by decide) ?_
            refine lv_aload_n hx hb dX0_useMonitor_160 rfl (lv_at hl 2 rfl) ?_
            refine kr_callVv (As := []) (rest := []) ⟨hx, hb, hml, hown, hts⟩ (c_wRunOn l D gc ad ln (m_aNotify iv mi mm 0 sz) lv mi t hmi (by omega)) (cwV 0 hts (goodV (fun _ h => tcons h) tw_337 tw_338 tw_339 tw_4 tw_340) rfl rfl rfl (by decide +kernel) ⟨Nat.le_of_ble_eq_true rfl, Nat.le_of_ble_eq_true rfl⟩) (kr_recv hK hP (20 + 4 * mi + t) (by omega) (E_wk (mi := mi) (t := t) hmi (by omega) _ _ _ _) rfl) hK hP hD hS hA rfl hl.1 rfl (Nat.le_of_ble_eq_true rfl) dX0_useMonitor_161 ⟨Nat.le_of_ble_eq_true rfl, Nat.le_of_ble_eq_true rfl⟩ (fun H locs hP hD hS => ?_)
            exact kr_vret hx hb hr hlocks hK hP hD hS (by unfold m_aUse; rw [if_neg c_1, if_pos c_2, if_neg c_3, if_pos c_4, if_pos c_8]) dX0_useMonitor_164
      · refine lv_aload hx hb dX0_useMonitor_64 (lv_at hl 1 rfl) ?_
        refine kr_callVv (As := []) (rest := []) ⟨hx, hb, hml, hown, hts⟩ (c_mLeave l D gc ad ln iv lv mi mm hmi hmm) (cwV 0 hts (goodV (fun _ h => tcons h) tw_308 tw_309 tw_310 tw_5 tw_311) rfl rfl rfl (by decide +kernel) ⟨Nat.le_of_ble_eq_true rfl, Nat.le_of_ble_eq_true rfl⟩) (kr_recv hK hP (28 + 2 * mi + mm) (by omega) (E_mon (mi := mi) (m := mm) hmi hmm _ _ _ _) rfl) hK hP hD hS hA rfl hl.1 rfl (Nat.le_of_ble_eq_true rfl) dX0_useMonitor_66 ⟨Nat.le_of_ble_eq_true rfl, Nat.le_of_ble_eq_true rfl⟩ (fun H locs hP hD hS => ?_)
        refine lv_goto (tgt := 160) hx hb dX0_useMonitor_69 (by decide) ?_
        refine lv_aload_n hx hb dX0_useMonitor_160 rfl (lv_at hl 2 rfl) ?_
        refine kr_callVv (As := []) (rest := []) ⟨hx, hb, hml, hown, hts⟩ (c_wRunOn l D gc ad ln (m_mLeave iv mi mm) lv mi t hmi (by omega)) (cwV 0 hts (goodV (fun _ h => tcons h) tw_337 tw_338 tw_339 tw_4 tw_340) rfl rfl rfl (by decide +kernel) ⟨Nat.le_of_ble_eq_true rfl, Nat.le_of_ble_eq_true rfl⟩) (kr_recv hK hP (20 + 4 * mi + t) (by omega) (E_wk (mi := mi) (t := t) hmi (by omega) _ _ _ _) rfl) hK hP hD hS hA rfl hl.1 rfl (Nat.le_of_ble_eq_true rfl) dX0_useMonitor_161 ⟨Nat.le_of_ble_eq_true rfl, Nat.le_of_ble_eq_true rfl⟩ (fun H locs hP hD hS => ?_)
        exact kr_vret hx hb hr hlocks hK hP hD hS (by unfold m_aUse; rw [if_neg c_1, if_pos c_2, if_pos c_3]) dX0_useMonitor_164
    · refine lv_aload_n hx hb dX0_useMonitor_50 rfl (lv_at hl 2 rfl) ?_
      refine lv_iconst (v := 0) hx hb dX0_useMonitor_51 (by decide) ?_
      refine kr_callVv (As := [.int 0]) (rest := []) ⟨hx, hb, hml, hown, hts⟩ (c_wPut l D gc ad ln iv lv mi t hmi (by omega) 0) (cwV 1 hts (goodV (fun _ h => tcons h) tw_304 tw_305 tw_306 tw_4 tw_307) rfl rfl rfl (by decide +kernel) ⟨Nat.le_of_ble_eq_true rfl, Nat.le_of_ble_eq_true rfl⟩) (kr_recv hK hP (20 + 4 * mi + t) (by omega) (E_wk (mi := mi) (t := t) hmi (by omega) _ _ _ _) rfl) hK hP hD hS hA rfl hl.1 rfl (Nat.le_of_ble_eq_true rfl) dX0_useMonitor_52 ⟨Nat.le_of_ble_eq_true rfl, Nat.le_of_ble_eq_true rfl⟩ (fun H locs hP hD hS => ?_)
      refine lv_goto (tgt := 160) hx hb dX0_useMonitor_55 (by decide) ?_
      refine lv_aload_n hx hb dX0_useMonitor_160 rfl (lv_at hl 2 rfl) ?_
      refine kr_callVv (As := []) (rest := []) ⟨hx, hb, hml, hown, hts⟩ (c_wRunOn l D gc ad ln (m_wPut iv mi t 0) lv mi t hmi (by omega)) (cwV 0 hts (goodV (fun _ h => tcons h) tw_337 tw_338 tw_339 tw_4 tw_340) rfl rfl rfl (by decide +kernel) ⟨Nat.le_of_ble_eq_true rfl, Nat.le_of_ble_eq_true rfl⟩) (kr_recv hK hP (20 + 4 * mi + t) (by omega) (E_wk (mi := mi) (t := t) hmi (by omega) _ _ _ _) rfl) hK hP hD hS hA rfl hl.1 rfl (Nat.le_of_ble_eq_true rfl) dX0_useMonitor_161 ⟨Nat.le_of_ble_eq_true rfl, Nat.le_of_ble_eq_true rfl⟩ (fun H locs hP hD hS => ?_)
      exact kr_vret hx hb hr hlocks hK hP hD hS (by unfold m_aUse; rw [if_neg c_1, if_neg c_2]) dX0_useMonitor_164
  · refine lv_aload hx hb dX0_useMonitor_25 (lv_at hl 1 rfl) ?_
    refine lv_iload_n hx hb dX0_useMonitor_27 rfl (lv_at hl 4 rfl) ?_
    refine lv_aload hx hb dX0_useMonitor_28 (lv_at hl 1 rfl) ?_
    refine kr_get (C := "MonitorWays$Monitor") (T := TX1) (N := 4) hx hb hts hin_X1 hown hK hP (28 + 2 * mi + mm) (by omega) (E_mon (mi := mi) (m := mm) hmi hmm _ _ _ _) rfl 1 (by decide) lk_f105 (fun _ h9 => h9) rfl dX0_useMonitor_30 ?_
    refine lv_iconst (v := 1) hx hb dX0_useMonitor_33 (by decide) ?_
    refine lv_iadd hx hb dX0_useMonitor_34 ?_
    refine kr_callVv (As := [.int (nI t), .int ((iv (28 + 2 * mi + mm) 1) + 1)]) (rest := []) ⟨hx, hb, hml, hown, hts⟩ (c_mOwn l D gc ad ln iv lv mi mm hmi hmm (nI t) ((iv (28 + 2 * mi + mm) 1) + 1)) (cwV 2 hts (goodV (fun _ h => tcons h) tw_300 tw_301 tw_302 tw_5 tw_303) rfl rfl rfl (by decide +kernel) ⟨Nat.le_of_ble_eq_true rfl, Nat.le_of_ble_eq_true rfl⟩) (kr_recv hK hP (28 + 2 * mi + mm) (by omega) (E_mon (mi := mi) (m := mm) hmi hmm _ _ _ _) rfl) hK hP hD hS hA rfl hl.1 rfl (Nat.le_of_ble_eq_true rfl) dX0_useMonitor_35 ⟨Nat.le_of_ble_eq_true rfl, Nat.le_of_ble_eq_true rfl⟩ (fun H locs hP hD hS => ?_)
    refine lv_goto (tgt := 160) hx hb dX0_useMonitor_38 (by decide) ?_
    refine lv_aload_n hx hb dX0_useMonitor_160 rfl (lv_at hl 2 rfl) ?_
    refine kr_callVv (As := []) (rest := []) ⟨hx, hb, hml, hown, hts⟩ (c_wRunOn l D gc ad ln (m_mOwn iv mi mm (nI t) ((iv (28 + 2 * mi + mm) 1) + 1)) lv mi t hmi (by omega)) (cwV 0 hts (goodV (fun _ h => tcons h) tw_337 tw_338 tw_339 tw_4 tw_340) rfl rfl rfl (by decide +kernel) ⟨Nat.le_of_ble_eq_true rfl, Nat.le_of_ble_eq_true rfl⟩) (kr_recv hK hP (20 + 4 * mi + t) (by omega) (E_wk (mi := mi) (t := t) hmi (by omega) _ _ _ _) rfl) hK hP hD hS hA rfl hl.1 rfl (Nat.le_of_ble_eq_true rfl) dX0_useMonitor_161 ⟨Nat.le_of_ble_eq_true rfl, Nat.le_of_ble_eq_true rfl⟩ (fun H locs hP hD hS => ?_)
    exact kr_vret hx hb hr hlocks hK hP hD hS (by unfold m_aUse; rw [if_pos c_1]) dX0_useMonitor_164
