def m_hForget (iv : Nat → Nat → Int32) : Nat → Nat → Int32 := (up2 (up2 (up2 (up2 (up2 (up2 (up2 (up2 (up2 (up2 iv 36 1 0) 36 3 0) 36 4 0) 36 5 0) 36 6 0) 36 10 0) 37 0 0) 37 1 0) 37 2 0) 37 3 0)
set_option maxHeartbeats 4000000 in
set_option maxRecDepth 100000 in
theorem c_hForget (l : Launch) (D : va_G) (gc : Nat → ClassId) (ad ln : Nat → Nat) (iv : Nat → Nat → Int32) (lv : Nat → Nat → Int64) : kMv l yX3_forget wX3_forget ({ frames := 0, cells := 0, slots := 0, locals := 0 }) D vwCl (kT gc) 42 (kE gc) [.ref (ad 36)] (ad, ln, iv, lv) (ad, ln, m_hForget iv, lv) := by
  refine kv_start (cc := cX3_forget) (maxL := 2) (by decide) rfl (Nat.le_of_ble_eq_true rfl) ?_
  intro p9 e9 s m9 below meth c9 A ls hx hb hr hts hown hlocks hml hA hK hP hD hS hl
  have hl : lv_has ls 2 [(0, .ref (ad 36))] := hl
  have hown : s.vm.findClass "MonitorWays$Search" = some m9.cls := hown
  have hin_X3 : ∀ w ∈ u_ws "MonitorWays$Search" TX3 11, w ∈ wX3_forget := fun w h => tcons (inX3 w h)
  have lk_f30 := hts _ (tcons tw_167)
  have lk_f34 := hts _ (tcons tw_171)
  have lk_f38 := hts _ (tcons tw_173)
  have lk_f41 := hts _ (tcons tw_175)
  have lk_f44 := hts _ (tcons tw_177)
  have lk_f47 := hts _ (tcons tw_182)
  have lk_f9 := hts _ (tcons tw_165)
  refine lv_aload_n hx hb dX3_forget_0 rfl (lv_at hl 0 rfl) ?_
  refine lv_iconst (v := 0) hx hb dX3_forget_1 (by decide) ?_
  refine kr_put (C := "MonitorWays$Search") (T := TX3) (N := 11) hx hb hts hin_X3 tyX3 ok_tyX3 ok_nX3 hown hK hP hD hS 36 (by decide) (fun _ => E_srch _ _ _ _) rfl 1 (by decide) lk_f30 (fun _ h9 => h9) rfl rfl (by decide) (by decide) (fun _ => Nat.le_of_ble_eq_true rfl) (fun _ => rfl) dX3_forget_2 (fun H locs hP hD hS => ?_)
  refine lv_aload_n hx hb dX3_forget_5 rfl (lv_at hl 0 rfl) ?_
  refine lv_iconst (v := 0) hx hb dX3_forget_6 (by decide) ?_
  refine kr_put (C := "MonitorWays$Search") (T := TX3) (N := 11) hx hb hts hin_X3 tyX3 ok_tyX3 ok_nX3 hown hK hP hD hS 36 (by decide) (fun _ => E_srch _ _ _ _) rfl 3 (by decide) lk_f34 (fun _ h9 => h9) rfl rfl rfl rfl (fun _ => Nat.le_of_ble_eq_true rfl) (fun _ => rfl) dX3_forget_7 (fun H locs hP hD hS => ?_)
  refine lv_aload_n hx hb dX3_forget_10 rfl (lv_at hl 0 rfl) ?_
  refine lv_iconst (v := 0) hx hb dX3_forget_11 (by decide) ?_
  refine kr_put (C := "MonitorWays$Search") (T := TX3) (N := 11) hx hb hts hin_X3 tyX3 ok_tyX3 ok_nX3 hown hK hP hD hS 36 (by decide) (fun _ => E_srch _ _ _ _) rfl 4 (by decide) lk_f38 (fun _ h9 => h9) rfl rfl rfl rfl (fun _ => Nat.le_of_ble_eq_true rfl) (fun _ => rfl) dX3_forget_12 (fun H locs hP hD hS => ?_)
  refine lv_aload_n hx hb dX3_forget_15 rfl (lv_at hl 0 rfl) ?_
  refine lv_iconst (v := 0) hx hb dX3_forget_16 (by decide) ?_
  refine kr_put (C := "MonitorWays$Search") (T := TX3) (N := 11) hx hb hts hin_X3 tyX3 ok_tyX3 ok_nX3 hown hK hP hD hS 36 (by decide) (fun _ => E_srch _ _ _ _) rfl 5 (by decide) lk_f41 (fun _ h9 => h9) rfl rfl rfl rfl (fun _ => Nat.le_of_ble_eq_true rfl) (fun _ => rfl) dX3_forget_17 (fun H locs hP hD hS => ?_)
  refine lv_aload_n hx hb dX3_forget_20 rfl (lv_at hl 0 rfl) ?_
  refine lv_iconst (v := 0) hx hb dX3_forget_21 (by decide) ?_
  refine kr_put (C := "MonitorWays$Search") (T := TX3) (N := 11) hx hb hts hin_X3 tyX3 ok_tyX3 ok_nX3 hown hK hP hD hS 36 (by decide) (fun _ => E_srch _ _ _ _) rfl 6 (by decide) lk_f44 (fun _ h9 => h9) rfl rfl rfl rfl (fun _ => Nat.le_of_ble_eq_true rfl) (fun _ => rfl) dX3_forget_22 (fun H locs hP hD hS => ?_)
  refine lv_aload_n hx hb dX3_forget_25 rfl (lv_at hl 0 rfl) ?_
  refine lv_iconst (v := 0) hx hb dX3_forget_26 (by decide) ?_
  refine kr_put (C := "MonitorWays$Search") (T := TX3) (N := 11) hx hb hts hin_X3 tyX3 ok_tyX3 ok_nX3 hown hK hP hD hS 36 (by decide) (fun _ => E_srch _ _ _ _) rfl 10 (by decide) lk_f47 (fun _ h9 => h9) rfl rfl rfl rfl (fun _ => Nat.le_of_ble_eq_true rfl) (fun _ => rfl) dX3_forget_27 (fun H locs hP hD hS => ?_)
  refine lv_iconst (v := 0) hx hb dX3_forget_30 (by decide) ?_
  refine lv_istore_n (lv' := [(1, .int 0), (0, .ref (ad 36))]) hx hb dX3_forget_31 rfl hl (by decide) rfl (fun ls hl => ?_)
  refine lv_iload_n hx hb dX3_forget_32 rfl (lv_at hl 0 rfl) ?_
  refine lv_iconst (v := 4) hx hb dX3_forget_33 (by decide) ?_
  refine lv_icmp_ge (tgt := 50) hx hb dX3_forget_34 (by decide) (fun c_1 => absurd c_1 (by decide)) (fun c_1 => ?_)
  refine lv_aload_n hx hb dX3_forget_37 rfl (lv_at hl 1 rfl) ?_
  refine kr_get (C := "MonitorWays$Search") (T := TX3) (N := 11) hx hb hts hin_X3 hown hK hP 36 (by decide) (E_srch _ _ _ _) rfl 0 (by decide) lk_f9 (fun _ h9 => h9) rfl dX3_forget_38 ?_
  refine lv_iload_n hx hb dX3_forget_41 rfl (lv_at hl 0 rfl) ?_
  refine lv_iconst (v := 0) hx hb dX3_forget_42 (by decide) ?_
  refine kr_zastN hx hb hK hP hD hS 37 1 (by decide) (fun _ => E_blk _ _ _ _) rfl (j := 0) (by decide) (by decide) (by decide) dX3_forget_43 (fun H locs hP hD hS => ?_)
  refine lv_iinc (v := 1) (lv' := [(1, .int 1), (0, .ref (ad 36))]) hx hb dX3_forget_44 hl (k := 0) rfl (by decide) (by decide) rfl (fun ls hl => ?_)
  refine lv_goto (tgt := 32) hx hb dX3_forget_47 (by decide) ?_
  refine lv_iload_n hx hb dX3_forget_32 rfl (lv_at hl 0 rfl) ?_
  refine lv_iconst (v := 4) hx hb dX3_forget_33 (by decide) ?_
  refine lv_icmp_ge (tgt := 50) hx hb dX3_forget_34 (by decide) (fun c_2 => absurd c_2 (by decide)) (fun c_2 => ?_)
  refine lv_aload_n hx hb dX3_forget_37 rfl (lv_at hl 1 rfl) ?_
  refine kr_get (C := "MonitorWays$Search") (T := TX3) (N := 11) hx hb hts hin_X3 hown hK hP 36 (by decide) (E_srch _ _ _ _) rfl 0 (by decide) lk_f9 (fun _ h9 => h9) rfl dX3_forget_38 ?_
  refine lv_iload_n hx hb dX3_forget_41 rfl (lv_at hl 0 rfl) ?_
  refine lv_iconst (v := 0) hx hb dX3_forget_42 (by decide) ?_
  refine kr_zastN hx hb hK hP hD hS 37 1 (by decide) (fun _ => E_blk _ _ _ _) rfl (j := 1) (by decide) (by decide) (by decide) dX3_forget_43 (fun H locs hP hD hS => ?_)
  refine lv_iinc (v := 2) (lv' := [(1, .int 2), (0, .ref (ad 36))]) hx hb dX3_forget_44 hl (k := 0) rfl (by decide) (by decide) rfl (fun ls hl => ?_)
  refine lv_goto (tgt := 32) hx hb dX3_forget_47 (by decide) ?_
  refine lv_iload_n hx hb dX3_forget_32 rfl (lv_at hl 0 rfl) ?_
  refine lv_iconst (v := 4) hx hb dX3_forget_33 (by decide) ?_
  refine lv_icmp_ge (tgt := 50) hx hb dX3_forget_34 (by decide) (fun c_3 => absurd c_3 (by decide)) (fun c_3 => ?_)
  refine lv_aload_n hx hb dX3_forget_37 rfl (lv_at hl 1 rfl) ?_
  refine kr_get (C := "MonitorWays$Search") (T := TX3) (N := 11) hx hb hts hin_X3 hown hK hP 36 (by decide) (E_srch _ _ _ _) rfl 0 (by decide) lk_f9 (fun _ h9 => h9) rfl dX3_forget_38 ?_
  refine lv_iload_n hx hb dX3_forget_41 rfl (lv_at hl 0 rfl) ?_
  refine lv_iconst (v := 0) hx hb dX3_forget_42 (by decide) ?_
  refine kr_zastN hx hb hK hP hD hS 37 1 (by decide) (fun _ => E_blk _ _ _ _) rfl (j := 2) (by decide) (by decide) (by decide) dX3_forget_43 (fun H locs hP hD hS => ?_)
  refine lv_iinc (v := 3) (lv' := [(1, .int 3), (0, .ref (ad 36))]) hx hb dX3_forget_44 hl (k := 0) rfl (by decide) (by decide) rfl (fun ls hl => ?_)
  refine lv_goto (tgt := 32) hx hb dX3_forget_47 (by decide) ?_
  refine lv_iload_n hx hb dX3_forget_32 rfl (lv_at hl 0 rfl) ?_
  refine lv_iconst (v := 4) hx hb dX3_forget_33 (by decide) ?_
  refine lv_icmp_ge (tgt := 50) hx hb dX3_forget_34 (by decide) (fun c_4 => absurd c_4 (by decide)) (fun c_4 => ?_)
  refine lv_aload_n hx hb dX3_forget_37 rfl (lv_at hl 1 rfl) ?_
  refine kr_get (C := "MonitorWays$Search") (T := TX3) (N := 11) hx hb hts hin_X3 hown hK hP 36 (by decide) (E_srch _ _ _ _) rfl 0 (by decide) lk_f9 (fun _ h9 => h9) rfl dX3_forget_38 ?_
  refine lv_iload_n hx hb dX3_forget_41 rfl (lv_at hl 0 rfl) ?_
  refine lv_iconst (v := 0) hx hb dX3_forget_42 (by decide) ?_
  refine kr_zastN hx hb hK hP hD hS 37 1 (by decide) (fun _ => E_blk _ _ _ _) rfl (j := 3) (by decide) (by decide) (by decide) dX3_forget_43 (fun H locs hP hD hS => ?_)
  refine lv_iinc (v := 4) (lv' := [(1, .int 4), (0, .ref (ad 36))]) hx hb dX3_forget_44 hl (k := 0) rfl (by decide) (by decide) rfl (fun ls hl => ?_)
  refine lv_goto (tgt := 32) hx hb dX3_forget_47 (by decide) ?_
  refine lv_iload_n hx hb dX3_forget_32 rfl (lv_at hl 0 rfl) ?_
  refine lv_iconst (v := 4) hx hb dX3_forget_33 (by decide) ?_
  refine lv_icmp_ge (tgt := 50) hx hb dX3_forget_34 (by decide) (fun c_5 => ?_) (fun c_5 => absurd (by decide) c_5)
  exact kr_vret hx hb hr hlocks hK hP hD hS rfl dX3_forget_50
def r_hOutAt (iv : Nat → Nat → Int32) (lv : Nat → Nat → Int64) (k : Int32) (kx : Nat) : Int64 := if k < 0 then (-1) else if iv 36 10 ≤ k then (-1) else lv 41 kx
set_option maxHeartbeats 4000000 in
set_option maxRecDepth 100000 in
theorem c_hOutAt (l : Launch) (D : va_G) (gc : Nat → ClassId) (ad ln : Nat → Nat) (iv : Nat → Nat → Int32) (lv : Nat → Nat → Int64) (k : Int32) (kx : Nat) (hno : ln 41 < 2 ^ 31) (hkx : ¬ k < 0 → ¬ iv 36 10 ≤ k → kx < ln 41 ∧ k = nI kx) : kMl l yX3_outcomeAt wX3_outcomeAt ({ frames := 0, cells := 0, slots := 0, locals := 0 }) D vwCl (kT gc) 42 (kE gc) [.ref (ad 36), .int k] (ad, ln, iv, lv) (ad, ln, iv, lv) (r_hOutAt iv lv k kx) := by
  refine kl_start (cc := cX3_outcomeAt) (maxL := 2) (ret := (some .long)) (by decide) rfl (Nat.le_of_ble_eq_true rfl) ?_
  intro p9 e9 s m9 below meth c9 A ls hx hb hr hts hown hlocks hml hA hK hP hD hS hl
  have hl : lv_has ls 2 [(0, .ref (ad 36)), (1, .int k)] := hl
  have hown : s.vm.findClass "MonitorWays$Search" = some m9.cls := hown
  have hin_X3 : ∀ w ∈ u_ws "MonitorWays$Search" TX3 11, w ∈ wX3_outcomeAt := fun w h => tcons (inX3 w h)
  have lk_c124 := hts _ (tcons tw_538)
  have lk_f47 := hts _ (tcons tw_182)
  have lk_f22 := hts _ (tcons tw_181)
  refine lv_iload_n hx hb dX3_outcomeAt_0 rfl (lv_at hl 1 rfl) ?_
  refine lv_if_lt (tgt := 21) hx hb dX3_outcomeAt_1 (by decide) (fun c_1 => ?_) (fun c_1 => ?_)
  · refine lv_ldc2 (v := (-1)) hx hb hown lk_c124 dX3_outcomeAt_21 ?_
    exact kr_lret hx hb hr hlocks hK hP hD hS (by unfold r_hOutAt; rw [if_pos c_1]) rfl dX3_outcomeAt_24
  · refine lv_iload_n hx hb dX3_outcomeAt_4 rfl (lv_at hl 1 rfl) ?_
    refine lv_aload_n hx hb dX3_outcomeAt_5 rfl (lv_at hl 0 rfl) ?_
    refine kr_get (C := "MonitorWays$Search") (T := TX3) (N := 11) hx hb hts hin_X3 hown hK hP 36 (by decide) (E_srch _ _ _ _) rfl 10 (by decide) lk_f47 (fun _ h9 => h9) rfl dX3_outcomeAt_6 ?_
    refine lv_icmp_ge (tgt := 21) hx hb dX3_outcomeAt_9 (by decide) (fun c_2 => ?_) (fun c_2 => ?_)
    · refine lv_ldc2 (v := (-1)) hx hb hown lk_c124 dX3_outcomeAt_21 ?_
      exact kr_lret hx hb hr hlocks hK hP hD hS (by unfold r_hOutAt; rw [if_neg c_1, if_pos c_2]) rfl dX3_outcomeAt_24
    · obtain ⟨hkn, hkk⟩ := hkx c_1 c_2
      refine lv_aload_n hx hb dX3_outcomeAt_12 rfl (lv_at hl 0 rfl) ?_
      refine kr_get (C := "MonitorWays$Search") (T := TX3) (N := 11) hx hb hts hin_X3 hown hK hP 36 (by decide) (E_srch _ _ _ _) rfl 9 (by decide) lk_f22 (fun _ h9 => h9) rfl dX3_outcomeAt_13 ?_
      refine lv_iload_n hx hb dX3_outcomeAt_16 rfl (lv_at hl 1 rfl) ?_
      refine kr_topi (y := nI kx) hkk ?_
      refine kr_laldN hx hb hK hP 41 2 (by decide) (E_outs _ _ _ _) rfl (j := kx) (by omega) hno dX3_outcomeAt_17 ?_
      refine lv_goto (tgt := 24) hx hb dX3_outcomeAt_18 (by decide) ?_
      exact kr_lret hx hb hr hlocks hK hP hD hS (by unfold r_hOutAt; rw [if_neg c_1, if_neg c_2]) rfl dX3_outcomeAt_24
/-- binary search -/
def bsr (lv : Nat → Nat → Int64) (N : Int64) : Nat → Nat → Nat → Nat
  | 0, lo, _ => lo
  | k + 1, lo, hi => if lo < hi then (if lv 41 ((lo + hi) / 2) < N then bsr lv N k ((lo + hi) / 2 + 1) hi else bsr lv N k lo ((lo + hi) / 2)) else lo
theorem bsr_e {lv : Nat → Nat → Int64} {N : Int64} {k lo hi : Nat} (h : ¬ lo < hi) : bsr lv N k lo hi = lo := by
  cases k
  · rfl
  · rw [bsr, if_neg h]
theorem bsr_l {lv : Nat → Nat → Int64} {N : Int64} {n i lo hi : Nat} (hi' : i < n) (h : lo < hi) (h2 : lv 41 ((lo + hi) / 2) < N) : bsr lv N (n - (i + 1)) ((lo + hi) / 2 + 1) hi = bsr lv N (n - i) lo hi := by
  rw [show n - i = (n - (i + 1)) + 1 by omega, bsr, if_pos h, if_pos h2]
theorem bsr_h {lv : Nat → Nat → Int64} {N : Int64} {n i lo hi : Nat} (hi' : i < n) (h : lo < hi) (h2 : ¬ lv 41 ((lo + hi) / 2) < N) : bsr lv N (n - (i + 1)) lo ((lo + hi) / 2) = bsr lv N (n - i) lo hi := by
  rw [show n - i = (n - (i + 1)) + 1 by omega, bsr, if_pos h, if_neg h2]
def r_hLess (lv : Nat → Nat → Int64) (N : Int64) (f : Nat) : Int32 := nI (bsr lv N 3000 0 f)
set_option maxHeartbeats 4000000 in
set_option maxRecDepth 100000 in
theorem c_hLess (l : Launch) (D : va_G) (gc : Nat → ClassId) (ad ln : Nat → Nat) (iv : Nat → Nat → Int32) (lv : Nat → Nat → Int64) (N : Int64) (f : Nat) (hf : iv 36 10 = nI f) (hno : ln 41 < 2 ^ 31) (hf1 : f ≤ ln 41) (hf3 : f ≤ 3000) : kMi l yX3_lessThan wX3_lessThan ({ frames := 0, cells := 0, slots := 0, locals := 0 }) D vwCl (kT gc) 42 (kE gc) [.ref (ad 36), .long N] (ad, ln, iv, lv) (ad, ln, iv, lv) (r_hLess lv N f) := by
  refine ki_start (cc := cX3_lessThan) (maxL := 7) (ret := (some .int)) (by decide) rfl (Nat.le_of_ble_eq_true rfl) ?_
  intro p9 e9 s m9 below meth c9 A ls hx hb hr hts hown hlocks hml hA hK hP hD hS hl
  have hl : lv_has ls 7 [(0, .ref (ad 36)), (1, .long N)] := hl
  have hown : s.vm.findClass "MonitorWays$Search" = some m9.cls := hown
  have hin_X3 : ∀ w ∈ u_ws "MonitorWays$Search" TX3 11, w ∈ wX3_lessThan := fun w h => tcons (inX3 w h)
  have lk_f47 := hts _ (tcons tw_182)
  have lk_f22 := hts _ (tcons tw_181)
  refine lv_iconst (v := 0) hx hb dX3_lessThan_0 (by decide) ?_
  refine lv_istore_n (lv' := [(3, .int 0), (0, .ref (ad 36)), (1, .long N)]) hx hb dX3_lessThan_1 rfl hl (by decide) rfl (fun ls hl => ?_)
  refine lv_aload_n hx hb dX3_lessThan_2 rfl (lv_at hl 1 rfl) ?_
  refine kr_get (C := "MonitorWays$Search") (T := TX3) (N := 11) hx hb hts hin_X3 hown hK hP 36 (by decide) (E_srch _ _ _ _) rfl 10 (by decide) lk_f47 (fun _ h9 => h9) rfl dX3_lessThan_3 ?_
  refine kr_topi (y := nI f) hf ?_
  refine lv_istore (lv' := [(4, .int (nI f)), (3, .int 0), (0, .ref (ad 36)), (1, .long N)]) hx hb dX3_lessThan_6 hl (by decide) rfl (fun ls hl => ?_)
  refine lv_iconst (v := 0) hx hb dX3_lessThan_8 (by decide) ?_
  refine lv_istore (lv' := [(5, .int 0), (4, .int (nI f)), (3, .int 0), (0, .ref (ad 36)), (1, .long N)]) hx hb dX3_lessThan_9 hl (by decide) rfl (fun ls hl => ?_)
  refine kr_loop (σ := Nat × Nat × Nat) (fun z9 => match z9 with | (lo, hi, i) => 3000 - i) (fun z9 H locs ls => match z9 with | (lo, hi, i) => (lo ≤ hi ∧ hi ≤ f) ∧ (i ≤ 3000) ∧ (bsr lv N (3000 - i) lo hi = bsr lv N 3000 0 f) ∧ va_P D vwCl (mW 42 (kE gc) (ad, ln, iv, lv)) H ∧ va_D A (mW 42 (kE gc) (ad, ln, iv, lv)) ∧ va_S A s.heap H locs ∧ lv_has ls 7 [(0, .ref (ad 36)), (1, .long N), (3, .int (nI lo)), (4, .int (nI hi)), (5, .int (nI i))]) 11 (0, f, 0) ⟨⟨Nat.zero_le _, Nat.le_refl _⟩, Nat.zero_le _, rfl, hP, hD, hS, lv_sub hl [3, 4, 2, 1, 0] rfl⟩ ?_
  intro z9 H locs ls hI ih
  obtain ⟨lo, hi, i⟩ := z9
  obtain ⟨h1, h2, heq, hP, hD, hS, hl⟩ := hI
  refine lv_iload_n hx hb dX3_lessThan_11 rfl (lv_at hl 2 rfl) ?_
  refine lv_iload hx hb dX3_lessThan_12 (lv_at hl 3 rfl) ?_
  refine lv_icmp_ge (tgt := 63) hx hb dX3_lessThan_14 (by decide) (fun c_1 => ?_) (fun c_1 => ?_)
  · have hres : nI lo = r_hLess lv N f := by unfold r_hLess; rw [← heq, bsr_e (by have := (nI_leI (by omega) (by omega)).mp c_1; omega)]
    refine lv_iload_n hx hb dX3_lessThan_63 rfl (lv_at hl 2 rfl) ?_
    exact kr_iret hx hb hr hlocks hK hP hD hS hres rfl dX3_lessThan_64
  · have hlh : lo < hi := lt_of_nle (by omega) (by omega) c_1
    refine lv_iload hx hb dX3_lessThan_17 (lv_at hl 4 rfl) ?_
    refine lv_sipush (v := 3000) hx hb dX3_lessThan_19 (by decide) ?_
    refine lv_icmp_ge (tgt := 63) hx hb dX3_lessThan_22 (by decide) (fun c_2 => ?_) (fun c_2 => ?_)
    · have hres : nI lo = r_hLess lv N f := by unfold r_hLess; rw [← heq, show 3000 - i = 0 by have := (nI_leI (a := 3000) (by decide) (by omega)).mp c_2; omega, bsr]
      refine lv_iload_n hx hb dX3_lessThan_63 rfl (lv_at hl 2 rfl) ?_
      exact kr_iret hx hb hr hlocks hK hP hD hS hres rfl dX3_lessThan_64
    · have hi3 : i < 3000 := lt_of_nle (a := 3000) (by decide) (by omega) c_2
      refine lv_iload_n hx hb dX3_lessThan_25 rfl (lv_at hl 2 rfl) ?_
      refine lv_iload hx hb dX3_lessThan_26 (lv_at hl 3 rfl) ?_
      refine lv_iadd hx hb dX3_lessThan_28 ?_
      refine kr_topi (y := nI (lo + hi)) (nI_add lo hi) ?_
      refine lv_iconst (v := 2) hx hb dX3_lessThan_29 (by decide) ?_
      refine lv_idiv hx hb dX3_lessThan_30 (by decide) ?_
      refine kr_topi (y := nI ((lo + hi) / 2)) (pk_div (a := (lo + hi)) (d := 2) (by omega) (by decide) (by decide)) ?_
      refine lv_istore (lv' := [(6, .int (nI ((lo + hi) / 2))), (0, .ref (ad 36)), (1, .long N), (3, .int (nI lo)), (4, .int (nI hi)), (5, .int (nI i))]) hx hb dX3_lessThan_31 hl (by decide) rfl (fun ls hl => ?_)
      refine lv_aload_n hx hb dX3_lessThan_33 rfl (lv_at hl 1 rfl) ?_
      refine kr_get (C := "MonitorWays$Search") (T := TX3) (N := 11) hx hb hts hin_X3 hown hK hP 36 (by decide) (E_srch _ _ _ _) rfl 9 (by decide) lk_f22 (fun _ h9 => h9) rfl dX3_lessThan_34 ?_
      refine lv_iload hx hb dX3_lessThan_37 (lv_at hl 0 rfl) ?_
      refine kr_laldN hx hb hK hP 41 2 (by decide) (E_outs _ _ _ _) rfl (j := ((lo + hi) / 2)) (by omega) hno dX3_lessThan_39 ?_
      refine lv_lload_n hx hb dX3_lessThan_40 rfl (lv_at hl 2 rfl) ?_
      refine W.lcmp hx hb dX3_lessThan_41 ?_
      refine lv_if_ge (tgt := 53) hx hb dX3_lessThan_42 (by decide) (fun c_3 => ?_) (fun c_3 => ?_)
      · replace c_3 : N ≤ lv 41 ((lo + hi) / 2) := (lg_cmp_ge _ _).mp c_3
        refine lv_iload hx hb dX3_lessThan_53 (lv_at hl 0 rfl) ?_
        refine lv_istore (lv' := [(4, .int (nI ((lo + hi) / 2))), (6, .int (nI ((lo + hi) / 2))), (0, .ref (ad 36)), (1, .long N), (3, .int (nI lo)), (5, .int (nI i))]) hx hb dX3_lessThan_55 hl (by decide) rfl (fun ls hl => ?_)
        refine lv_iinc (v := nI (i + 1)) (lv' := [(5, .int (nI (i + 1))), (4, .int (nI ((lo + hi) / 2))), (6, .int (nI ((lo + hi) / 2))), (0, .ref (ad 36)), (1, .long N), (3, .int (nI lo))]) hx hb dX3_lessThan_57 hl (k := 5) rfl (nI_1 i) (by decide) rfl (fun ls hl => ?_)
        refine lv_goto (tgt := 11) hx hb dX3_lessThan_60 (by decide) ?_
        exact ih (lo, ((lo + hi) / 2), i + 1) H locs ls ⟨⟨by omega, by omega⟩, by omega, (bsr_h hi3 hlh (Int64.not_lt.mpr c_3)).trans heq, hP, hD, hS, lv_sub hl [3, 4, 5, 1, 0] rfl⟩ (by show 3000 - (i + 1) < 3000 - i; omega)
      · replace c_3 : ¬ N ≤ lv 41 ((lo + hi) / 2) := (fun h => c_3 ((lg_cmp_ge _ _).mpr h))
        refine lv_iload hx hb dX3_lessThan_45 (lv_at hl 0 rfl) ?_
        refine lv_iconst (v := 1) hx hb dX3_lessThan_47 (by decide) ?_
        refine lv_iadd hx hb dX3_lessThan_48 ?_
        refine kr_topi (y := nI (((lo + hi) / 2) + 1)) (nI_add ((lo + hi) / 2) 1) ?_
        refine lv_istore_n (lv' := [(3, .int (nI (((lo + hi) / 2) + 1))), (6, .int (nI ((lo + hi) / 2))), (0, .ref (ad 36)), (1, .long N), (4, .int (nI hi)), (5, .int (nI i))]) hx hb dX3_lessThan_49 rfl hl (by decide) rfl (fun ls hl => ?_)
        refine lv_goto (tgt := 57) hx hb dX3_lessThan_50 (by decide) ?_
        refine lv_iinc (v := nI (i + 1)) (lv' := [(5, .int (nI (i + 1))), (3, .int (nI (((lo + hi) / 2) + 1))), (6, .int (nI ((lo + hi) / 2))), (0, .ref (ad 36)), (1, .long N), (4, .int (nI hi))]) hx hb dX3_lessThan_57 hl (k := 5) rfl (nI_1 i) (by decide) rfl (fun ls hl => ?_)
        refine lv_goto (tgt := 11) hx hb dX3_lessThan_60 (by decide) ?_
        exact ih (((lo + hi) / 2 + 1), hi, i + 1) H locs ls ⟨⟨by omega, by omega⟩, by omega, (bsr_l hi3 hlh (Int64.not_le.mp c_3)).trans heq, hP, hD, hS, lv_sub hl [3, 4, 1, 5, 0] rfl⟩ (by show 3000 - (i + 1) < 3000 - i; omega)
