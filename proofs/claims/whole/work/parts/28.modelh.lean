def pwL : Nat → Int64
  | 0 => 1
  | k + 1 => pwL k * 12
def nfB (m : Nat → Nat → Int32) : Nat → Nat → Nat → Int32
  | 0 => m
  | t + 1 => if nfB m t 5 t = 4 then nfB m t else up2 (nfB m t) 19 t 1
def nfA (m : Nat → Nat → Int32) : Nat → Int32
  | 0 => 1
  | t + 1 => if nfB m t 5 t = 4 then nfA m t else 0
def nfN (m : Nat → Nat → Int32) (lv : Nat → Nat → Int64) (lf : Nat → Nat) : Nat → Int64
  | 0 => 0
  | t + 1 => ((nfN m lv lf t * 48611) + ((pwL (lf t) + lv 8 t) * 12)) + (if nfB m t 5 t = 4 then (6 : Int32) else 7).toInt64
theorem nfB_row {m : Nat → Nat → Int32} {a : Nat} (h : a ≠ 19) : ∀ t, nfB m t a = m a
  | 0 => rfl
  | t + 1 => by
    rw [nfB]
    split
    · exact nfB_row h t
    · rw [up2_c h, nfB_row h t]
def posL (lv : Nat → Nat → Int64) (N : Int64) : Nat → Nat → Nat
  | 0, j => j
  | k + 1, j => if lv 18 j < N then posL lv N k (j + 1) else j
theorem posL_s {lv : Nat → Nat → Int64} {N : Int64} {f j : Nat} (hj : j < f) (h : lv 18 j < N) : posL lv N (f - (j + 1)) (j + 1) = posL lv N (f - j) j := by
  rw [show f - j = (f - (j + 1)) + 1 by omega, posL, if_pos h]
theorem posL_e {lv : Nat → Nat → Int64} {N : Int64} {f j : Nat} (hj : j < f) (h : ¬ lv 18 j < N) : posL lv N (f - j) j = j := by
  rw [show f - j = (f - (j + 1)) + 1 by omega, posL, if_neg h]
def shR : Nat → Nat → (Nat → Nat → Int64) → Nat → Nat → Int64
  | 0, _, lv => lv
  | n + 1, k, lv => shR n (k - 1) (up2L lv 18 k (lv 18 (k - 1)))
theorem shR_s {P k : Nat} {lv : Nat → Nat → Int64} (h : P < k) : shR (k - 1 - P) (k - 1) (up2L lv 18 k (lv 18 (k - 1))) = shR (k - P) k lv := by
  rw [show k - P = (k - 1 - P) + 1 by omega]
  rfl
def fM (iv : Nat → Nat → Int32) : Nat → Nat → Int32 := up2 iv 0 20 ((iv 0 20) + 1)
def fM2 (iv : Nat → Nat → Int32) : Nat → Nat → Int32 := if nfA (fM iv) 4 = 0 then nfB (fM iv) 4 else up2 (nfB (fM iv) 4) 0 21 ((nfB (fM iv) 4 0 21) + 1)
def fN (iv : Nat → Nat → Int32) (lv : Nat → Nat → Int64) (lf : Nat → Nat) : Int64 := nfN (fM iv) lv lf 4
def m_oFin (iv : Nat → Nat → Int32) (lv : Nat → Nat → Int64) (lf : Nat → Nat) (f : Nat) : Nat → Nat → Int32 := if posL lv (fN iv lv lf) f 0 < f ∧ lv 18 (posL lv (fN iv lv lf) f 0) = fN iv lv lf then fM2 iv else up2 (fM2 iv) 0 23 (nI (f + 1))
def n_oFin (iv : Nat → Nat → Int32) (lv : Nat → Nat → Int64) (lf : Nat → Nat) (f : Nat) : Nat → Nat → Int64 := if posL lv (fN iv lv lf) f 0 < f ∧ lv 18 (posL lv (fN iv lv lf) f 0) = fN iv lv lf then lv else up2L (shR (f - posL lv (fN iv lv lf) f 0) f lv) 18 (posL lv (fN iv lv lf) f 0) (fN iv lv lf)
set_option maxHeartbeats 4000000 in
set_option maxRecDepth 100000 in
theorem c_oFin (l : Launch) (D : va_G) (gc : Nat → ClassId) (ad ln : Nat → Nat) (iv : Nat → Nat → Int32) (lv : Nat → Nat → Int64) (lf : Nat → Nat) (hlf : ∀ t, t < 4 → iv 7 t = nI (lf t)) (hl6 : ∀ t, t < 4 → lf t ≤ 6) (f : Nat) (hf : iv 0 23 = nI f) (hf3 : f ≤ 3000) : kMv l yX7_noteFinal wX7_noteFinal ({ frames := 0, cells := 0, slots := 0, locals := 0 }) D vwCl (kT gc) 20 (rE gc) [.ref (ad 0)] (ad, ln, iv, lv) (ad, ln, m_oFin iv lv lf f, n_oFin iv lv lf f) := by
  refine kv_start (cc := cX7_noteFinal) (maxL := 8) (by decide) rfl (Nat.le_of_ble_eq_true rfl) ?_
  intro p9 e9 s m9 below meth c9 A ls hx hb hr hts hown hlocks hml hA hK hP hD hS hl
  have hl : lv_has ls 8 [(0, .ref (ad 0))] := hl
  have hown : s.vm.findClass "MonitorWaysModel" = some m9.cls := hown
  have hin_X7 : ∀ w ∈ u_ws "MonitorWaysModel" TX7 27, w ∈ wX7_noteFinal := fun w h => tcons (inX7 w h)
  have lk_f162 := hts _ (tcons tw_594)
  have lk_f159 := hts _ (tcons tw_595)
  have lk_f152 := hts _ (tcons tw_597)
  have lk_f63 := hts _ (tcons tw_598)
  have lk_f28 := hts _ (tcons tw_581)
  have lk_f22 := hts _ (tcons tw_579)
  have lk_f66 := hts _ (tcons tw_599)
  have lk_c187 := hts _ (tcons tw_789)
  have lk_f31 := hts _ (tcons tw_582)
  have lk_c109 := hts _ (tcons tw_719)
  refine lv_aload_n hx hb dX7_noteFinal_0 rfl (lv_at hl 0 rfl) ?_
  refine lv_dup hx hb dX7_noteFinal_1 rfl ?_
  refine kr_get (C := "MonitorWaysModel") (T := TX7) (N := 27) hx hb hts hin_X7 hown hK hP 0 (by decide) (R_0 _ _ _ _) rfl 20 (by decide) lk_f162 (fun _ h9 => h9) rfl dX7_noteFinal_2 ?_
  refine lv_iconst (v := 1) hx hb dX7_noteFinal_5 (by decide) ?_
  refine lv_iadd hx hb dX7_noteFinal_6 ?_
  refine kr_put (C := "MonitorWaysModel") (T := TX7) (N := 27) hx hb hts hin_X7 tyX7 ok_tyX7 ok_nX7 hown hK hP hD hS 0 (by decide) (fun _ => R_0 _ _ _ _) rfl 20 (by decide) lk_f162 (fun _ h9 => h9) rfl rfl rfl rfl (fun _ => Nat.le_of_ble_eq_true rfl) (fun _ => rfl) dX7_noteFinal_7 (fun H locs hP hD hS => ?_)
  have hP : va_P D vwCl (mW 20 (rE gc) (ad, ln, (fM iv), lv)) H := hP
  have hD : va_D A (mW 20 (rE gc) (ad, ln, (fM iv), lv)) := hD
  refine lv_lconst (v := 0) hx hb dX7_noteFinal_10 (by decide) ?_
  refine lv_lstore_n (lv' := [(1, .long 0), (0, .ref (ad 0))]) hx hb dX7_noteFinal_11 rfl hl (by decide) rfl (fun ls hl => ?_)
  refine lv_iconst (v := 1) hx hb dX7_noteFinal_12 (by decide) ?_
  refine lv_istore_n (lv' := [(3, .int 1), (1, .long 0), (0, .ref (ad 0))]) hx hb dX7_noteFinal_13 rfl hl (by decide) rfl (fun ls hl => ?_)
  refine lv_iconst (v := 0) hx hb dX7_noteFinal_14 (by decide) ?_
  refine lv_istore (lv' := [(4, .int 0), (3, .int 1), (1, .long 0), (0, .ref (ad 0))]) hx hb dX7_noteFinal_15 hl (by decide) rfl (fun ls hl => ?_)
  refine kr_loop (σ := Nat) (fun z9 => match z9 with | t => 4 - t) (fun z9 H locs ls => match z9 with | t => (t ≤ 4) ∧ va_P D vwCl (mW 20 (rE gc) (ad, ln, (nfB (fM iv) t), lv)) H ∧ va_D A (mW 20 (rE gc) (ad, ln, (nfB (fM iv) t), lv)) ∧ va_S A s.heap H locs ∧ lv_has ls 8 [(0, .ref (ad 0)), (1, .long (nfN (fM iv) lv lf t)), (3, .int (nfA (fM iv) t)), (4, .int (nI t))]) 17 (0) ⟨Nat.zero_le _, hP, hD, hS, lv_sub hl [3, 2, 1, 0] rfl⟩ ?_
  intro z9 H locs ls hI iho
  obtain ⟨t, hx9⟩ : ∃ z, z = z9 := ⟨_, rfl⟩
  subst hx9
  obtain ⟨ht, hP, hD, hS, hl⟩ := hI
  refine lv_iload hx hb dX7_noteFinal_17 (lv_at hl 3 rfl) ?_
  refine lv_iconst (v := 4) hx hb dX7_noteFinal_19 (by decide) ?_
  refine lv_icmp_ge (tgt := 134) hx hb dX7_noteFinal_20 (by decide) (fun c_1 => ?_) (fun c_1 => ?_)
  · have hte : 4 = t := by have := (nI_leI (a := 4) (by decide) (by omega)).mp c_1; omega
    subst hte
    refine lv_iload_n hx hb dX7_noteFinal_134 rfl (lv_at hl 2 rfl) ?_
    refine kr_ternM (M := 148) (cnd := nfA (fM iv) 4 = 0) (ma := (nfB (fM iv) 4)) (mb := (up2 (nfB (fM iv) 4) 0 21 (((nfB (fM iv) 4) 0 21) + 1))) (D := D) (cl := vwCl) (rest := []) (n := 20) (E := (rE gc)) (ad := ad) (ln := ln) (lv := lv) (A := A) (H0 := s.heap) (fun ja jb => ?_) (fun H locs hP hD hS => ?_)
    · refine lv_if_eq (tgt := 148) hx hb dX7_noteFinal_135 (by decide) (fun c_2 => ?_) (fun c_2 => ?_)
      · exact ja c_2 H locs hP hD hS
      · refine lv_aload_n hx hb dX7_noteFinal_138 rfl (lv_at hl 0 rfl) ?_
        refine lv_dup hx hb dX7_noteFinal_139 rfl ?_
        refine kr_get (C := "MonitorWaysModel") (T := TX7) (N := 27) hx hb hts hin_X7 hown hK hP 0 (by decide) (R_0 _ _ _ _) rfl 21 (by decide) lk_f159 (fun _ h9 => h9) rfl dX7_noteFinal_140 ?_
        refine lv_iconst (v := 1) hx hb dX7_noteFinal_143 (by decide) ?_
        refine lv_iadd hx hb dX7_noteFinal_144 ?_
        refine kr_put (C := "MonitorWaysModel") (T := TX7) (N := 27) hx hb hts hin_X7 tyX7 ok_tyX7 ok_nX7 hown hK hP hD hS 0 (by decide) (fun _ => R_0 _ _ _ _) rfl 21 (by decide) lk_f159 (fun _ h9 => h9) rfl rfl rfl rfl (fun _ => Nat.le_of_ble_eq_true rfl) (fun _ => rfl) dX7_noteFinal_145 (fun H locs hP hD hS => ?_)
        exact jb c_2 H locs hP hD hS
    have hP : va_P D vwCl (mW 20 (rE gc) (ad, ln, (fM2 iv), lv)) H := hP
    have hD : va_D A (mW 20 (rE gc) (ad, ln, (fM2 iv), lv)) := hD
    have hl : lv_has ls 8 [(0, .ref (ad 0)), (1, .long (fN iv lv lf)), (3, .int (nfA (fM iv) 4)), (4, .int (nI 4))] := hl
    have hf2 : fM2 iv 0 23 = nI f := by unfold fM2; split <;> (try rw [up2_k (by decide)]) <;> (rw [nfB_row (by decide)]; unfold fM; rw [up2_k (by decide)]; exact hf)
    refine lv_iconst (v := 0) hx hb dX7_noteFinal_148 (by decide) ?_
    refine lv_istore (lv' := [(4, .int 0), (0, .ref (ad 0)), (1, .long (fN iv lv lf)), (3, .int (nfA (fM iv) 4))]) hx hb dX7_noteFinal_149 hl (by decide) rfl (fun ls hl => ?_)
    refine kr_loop (σ := Nat) (fun z9 => match z9 with | j => f - j) (fun z9 H locs ls => match z9 with | j => (j ≤ f) ∧ (posL lv (fN iv lv lf) (f - j) j = posL lv (fN iv lv lf) f 0) ∧ va_P D vwCl (mW 20 (rE gc) (ad, ln, (fM2 iv), lv)) H ∧ va_D A (mW 20 (rE gc) (ad, ln, (fM2 iv), lv)) ∧ va_S A s.heap H locs ∧ lv_has ls 8 [(0, .ref (ad 0)), (1, .long (fN iv lv lf)), (4, .int (nI j))]) 151 (0) ⟨Nat.zero_le _, rfl, hP, hD, hS, lv_sub hl [1, 2, 0] rfl⟩ ?_
    intro z9 H locs ls hI ih
    obtain ⟨j, hx9⟩ : ∃ z, z = z9 := ⟨_, rfl⟩
    subst hx9
    obtain ⟨hj, heq, hP, hD, hS, hl⟩ := hI
    refine lv_iload hx hb dX7_noteFinal_151 (lv_at hl 2 rfl) ?_
    refine lv_aload_n hx hb dX7_noteFinal_153 rfl (lv_at hl 0 rfl) ?_
    refine kr_get (C := "MonitorWaysModel") (T := TX7) (N := 27) hx hb hts hin_X7 hown hK hP 0 (by decide) (R_0 _ _ _ _) rfl 23 (by decide) lk_f152 (fun _ h9 => h9) rfl dX7_noteFinal_154 ?_
    refine kr_topi (y := nI f) hf2 ?_
    refine lv_icmp_ge (tgt := 178) hx hb dX7_noteFinal_157 (by decide) (fun c_3 => ?_) (fun c_3 => ?_)
    · have hje : j = posL lv (fN iv lv lf) f 0 := by have h := (nI_leI (by omega) (by omega)).mp c_3; rw [← heq, show f - j = 0 by omega, posL]
      have hnn : ¬ (posL lv (fN iv lv lf) f 0 < f ∧ lv 18 (posL lv (fN iv lv lf) f 0) = fN iv lv lf) := by rw [← hje]; have h := (nI_leI (by omega) (by omega)).mp c_3; omega
      refine lv_iload hx hb dX7_noteFinal_178 (lv_at hl 2 rfl) ?_
      refine lv_aload_n hx hb dX7_noteFinal_180 rfl (lv_at hl 0 rfl) ?_
      refine kr_get (C := "MonitorWaysModel") (T := TX7) (N := 27) hx hb hts hin_X7 hown hK hP 0 (by decide) (R_0 _ _ _ _) rfl 23 (by decide) lk_f152 (fun _ h9 => h9) rfl dX7_noteFinal_181 ?_
      refine kr_topi (y := nI f) hf2 ?_
      refine lv_icmp_ge (tgt := 200) hx hb dX7_noteFinal_184 (by decide) (fun c_4 => ?_) (fun c_4 => absurd c_3 c_4)
      have hPf : j ≤ f := hj
      refine lv_aload_n hx hb dX7_noteFinal_200 rfl (lv_at hl 0 rfl) ?_
      refine kr_get (C := "MonitorWaysModel") (T := TX7) (N := 27) hx hb hts hin_X7 hown hK hP 0 (by decide) (R_0 _ _ _ _) rfl 23 (by decide) lk_f152 (fun _ h9 => h9) rfl dX7_noteFinal_201 ?_
      refine kr_topi (y := nI f) hf2 ?_
      refine lv_istore (lv' := [(5, .int (nI f)), (0, .ref (ad 0)), (1, .long (fN iv lv lf)), (4, .int (nI j))]) hx hb dX7_noteFinal_204 hl (by decide) rfl (fun ls hl => ?_)
      refine kr_loop (σ := Nat × ((Nat → Nat → Int64))) (fun z9 => match z9 with | (k, lvk) => k) (fun z9 H locs ls => match z9 with | (k, lvk) => (j ≤ k ∧ k ≤ f) ∧ (shR (k - j) k lvk = shR (f - j) f lv) ∧ va_P D vwCl (mW 20 (rE gc) (ad, ln, (fM2 iv), lvk)) H ∧ va_D A (mW 20 (rE gc) (ad, ln, (fM2 iv), lvk)) ∧ va_S A s.heap H locs ∧ lv_has ls 8 [(0, .ref (ad 0)), (1, .long (fN iv lv lf)), (4, .int (nI j)), (5, .int (nI k))]) 206 (f, lv) ⟨⟨hPf, Nat.le_refl _⟩, rfl, hP, hD, hS, lv_sub hl [1, 2, 3, 0] rfl⟩ ?_
      intro z9 H locs ls hI ih
      obtain ⟨k, lvk⟩ := z9
      obtain ⟨hk, heq2, hP, hD, hS, hl⟩ := hI
      refine lv_iload hx hb dX7_noteFinal_206 (lv_at hl 3 rfl) ?_
      refine lv_iload hx hb dX7_noteFinal_208 (lv_at hl 2 rfl) ?_
      refine lv_icmp_le (tgt := 235) hx hb dX7_noteFinal_210 (by decide) (fun c_5 => ?_) (fun c_5 => ?_)
      · have hkj : k = j := by have := (nI_leI (by omega) (by omega)).mp c_5; omega
        have hlk : lvk = shR (f - j) f lv := by rw [← heq2, hkj, Nat.sub_self, shR]
        subst hlk
        refine lv_aload_n hx hb dX7_noteFinal_235 rfl (lv_at hl 0 rfl) ?_
        refine kr_get (C := "MonitorWaysModel") (T := TX7) (N := 27) hx hb hts hin_X7 hown hK hP 0 (by decide) (R_0 _ _ _ _) rfl 24 (by decide) lk_f63 (fun _ h9 => h9) rfl dX7_noteFinal_236 ?_
        refine lv_iload hx hb dX7_noteFinal_239 (lv_at hl 2 rfl) ?_
        refine lv_lload_n hx hb dX7_noteFinal_241 rfl (lv_at hl 1 rfl) ?_
        refine kr_lastN hx hb hK hP hD hS 18 2 (by decide) (fun _ => R_18 _ _ _ _) rfl (j := j) (by omega) (by decide) dX7_noteFinal_242 (fun H locs hP hD hS => ?_)
        refine lv_aload_n hx hb dX7_noteFinal_243 rfl (lv_at hl 0 rfl) ?_
        refine lv_dup hx hb dX7_noteFinal_244 rfl ?_
        refine kr_get (C := "MonitorWaysModel") (T := TX7) (N := 27) hx hb hts hin_X7 hown hK hP 0 (by decide) (R_0 _ _ _ _) rfl 23 (by decide) lk_f152 (fun _ h9 => h9) rfl dX7_noteFinal_245 ?_
        refine kr_topi (y := nI f) hf2 ?_
        refine lv_iconst (v := 1) hx hb dX7_noteFinal_248 (by decide) ?_
        refine lv_iadd hx hb dX7_noteFinal_249 ?_
        refine kr_topi (y := nI (f + 1)) (nI_add f 1) ?_
        refine kr_put (C := "MonitorWaysModel") (T := TX7) (N := 27) hx hb hts hin_X7 tyX7 ok_tyX7 ok_nX7 hown hK hP hD hS 0 (by decide) (fun _ => R_0 _ _ _ _) rfl 23 (by decide) lk_f152 (fun _ h9 => h9) rfl rfl rfl rfl (fun _ => Nat.le_of_ble_eq_true rfl) (fun _ => rfl) dX7_noteFinal_250 (fun H locs hP hD hS => ?_)
        exact kr_vret hx hb hr hlocks hK hP hD hS (mem4 (by unfold m_oFin; rw [if_neg hnn]) (by unfold n_oFin; rw [if_neg hnn, ← hje])) dX7_noteFinal_253
      · have hjk : j < k := by rcases Nat.lt_or_ge j k with h | h; exact h; exact absurd ((nI_leI (by omega) (by omega)).mpr h) c_5
        refine lv_aload_n hx hb dX7_noteFinal_213 rfl (lv_at hl 0 rfl) ?_
        refine kr_get (C := "MonitorWaysModel") (T := TX7) (N := 27) hx hb hts hin_X7 hown hK hP 0 (by decide) (R_0 _ _ _ _) rfl 24 (by decide) lk_f63 (fun _ h9 => h9) rfl dX7_noteFinal_214 ?_
        refine lv_iload hx hb dX7_noteFinal_217 (lv_at hl 3 rfl) ?_
        refine lv_aload_n hx hb dX7_noteFinal_219 rfl (lv_at hl 0 rfl) ?_
        refine kr_get (C := "MonitorWaysModel") (T := TX7) (N := 27) hx hb hts hin_X7 hown hK hP 0 (by decide) (R_0 _ _ _ _) rfl 24 (by decide) lk_f63 (fun _ h9 => h9) rfl dX7_noteFinal_220 ?_
        refine lv_iload hx hb dX7_noteFinal_223 (lv_at hl 3 rfl) ?_
        refine lv_iconst (v := 1) hx hb dX7_noteFinal_225 (by decide) ?_
        refine lv_isub hx hb dX7_noteFinal_226 ?_
        refine kr_topi (y := nI (k - 1)) (pk_sub (a := k) (b := 1) (by omega)) ?_
        refine kr_laldN hx hb hK hP 18 2 (by decide) (R_18 _ _ _ _) rfl (j := (k - 1)) (by omega) (by decide) dX7_noteFinal_227 ?_
        refine kr_lastN hx hb hK hP hD hS 18 2 (by decide) (fun _ => R_18 _ _ _ _) rfl (j := k) (by omega) (by decide) dX7_noteFinal_228 (fun H locs hP hD hS => ?_)
        refine lv_iinc (v := nI (k - 1)) (lv' := [(5, .int (nI (k - 1))), (0, .ref (ad 0)), (1, .long (fN iv lv lf)), (4, .int (nI j))]) hx hb dX7_noteFinal_229 hl (k := 3) rfl (sb_m1 (by omega)) (by decide) rfl (fun ls hl => ?_)
        refine lv_goto (tgt := 206) hx hb dX7_noteFinal_232 (by decide) ?_
        exact ih (k - 1, (up2L lvk 18 k (lvk 18 (k - 1)))) H locs ls ⟨⟨by omega, by omega⟩, (shR_s hjk).trans heq2, hP, hD, hS, lv_sub hl [1, 2, 3, 0] rfl⟩ (by show (k - 1) < k; omega)
    · have hjf : j < f := lt_of_nle (by omega) (by omega) c_3
      refine lv_aload_n hx hb dX7_noteFinal_160 rfl (lv_at hl 0 rfl) ?_
      refine kr_get (C := "MonitorWaysModel") (T := TX7) (N := 27) hx hb hts hin_X7 hown hK hP 0 (by decide) (R_0 _ _ _ _) rfl 24 (by decide) lk_f63 (fun _ h9 => h9) rfl dX7_noteFinal_161 ?_
      refine lv_iload hx hb dX7_noteFinal_164 (lv_at hl 2 rfl) ?_
      refine kr_laldN hx hb hK hP 18 2 (by decide) (R_18 _ _ _ _) rfl (j := j) (by omega) (by decide) dX7_noteFinal_166 ?_
      refine lv_lload_n hx hb dX7_noteFinal_167 rfl (lv_at hl 1 rfl) ?_
      refine W.lcmp hx hb dX7_noteFinal_168 ?_
      refine lv_if_ge (tgt := 178) hx hb dX7_noteFinal_169 (by decide) (fun c_6 => ?_) (fun c_6 => ?_)
      · replace c_6 : fN iv lv lf ≤ lv 18 j := (lg_cmp_ge _ _).mp c_6
        have hje : j = posL lv (fN iv lv lf) f 0 := by rw [← heq, posL_e hjf (Int64.not_lt.mpr c_6)]
        refine lv_iload hx hb dX7_noteFinal_178 (lv_at hl 2 rfl) ?_
        refine lv_aload_n hx hb dX7_noteFinal_180 rfl (lv_at hl 0 rfl) ?_
        refine kr_get (C := "MonitorWaysModel") (T := TX7) (N := 27) hx hb hts hin_X7 hown hK hP 0 (by decide) (R_0 _ _ _ _) rfl 23 (by decide) lk_f152 (fun _ h9 => h9) rfl dX7_noteFinal_181 ?_
        refine kr_topi (y := nI f) hf2 ?_
        refine lv_icmp_ge (tgt := 200) hx hb dX7_noteFinal_184 (by decide) (fun c_7 => absurd c_7 c_3) (fun c_7 => ?_)
        refine lv_aload_n hx hb dX7_noteFinal_187 rfl (lv_at hl 0 rfl) ?_
        refine kr_get (C := "MonitorWaysModel") (T := TX7) (N := 27) hx hb hts hin_X7 hown hK hP 0 (by decide) (R_0 _ _ _ _) rfl 24 (by decide) lk_f63 (fun _ h9 => h9) rfl dX7_noteFinal_188 ?_
        refine lv_iload hx hb dX7_noteFinal_191 (lv_at hl 2 rfl) ?_
        refine kr_laldN hx hb hK hP 18 2 (by decide) (R_18 _ _ _ _) rfl (j := j) (by omega) (by decide) dX7_noteFinal_193 ?_
        refine lv_lload_n hx hb dX7_noteFinal_194 rfl (lv_at hl 1 rfl) ?_
        refine W.lcmp hx hb dX7_noteFinal_195 ?_
        refine lv_if_ne (tgt := 200) hx hb dX7_noteFinal_196 (by decide) (fun c_8 => ?_) (fun c_8 => ?_)
        · replace c_8 : ¬ lv 18 j = fN iv lv lf := (fun h => c_8 ((lg_cmp_eq _ _).mpr h))
          have hnn : ¬ (posL lv (fN iv lv lf) f 0 < f ∧ lv 18 (posL lv (fN iv lv lf) f 0) = fN iv lv lf) := by rw [← hje]; exact fun h => c_8 h.2
          have hPf : j ≤ f := hj
          refine lv_aload_n hx hb dX7_noteFinal_200 rfl (lv_at hl 0 rfl) ?_
          refine kr_get (C := "MonitorWaysModel") (T := TX7) (N := 27) hx hb hts hin_X7 hown hK hP 0 (by decide) (R_0 _ _ _ _) rfl 23 (by decide) lk_f152 (fun _ h9 => h9) rfl dX7_noteFinal_201 ?_
          refine kr_topi (y := nI f) hf2 ?_
          refine lv_istore (lv' := [(5, .int (nI f)), (0, .ref (ad 0)), (1, .long (fN iv lv lf)), (4, .int (nI j))]) hx hb dX7_noteFinal_204 hl (by decide) rfl (fun ls hl => ?_)
          refine kr_loop (σ := Nat × ((Nat → Nat → Int64))) (fun z9 => match z9 with | (k, lvk) => k) (fun z9 H locs ls => match z9 with | (k, lvk) => (j ≤ k ∧ k ≤ f) ∧ (shR (k - j) k lvk = shR (f - j) f lv) ∧ va_P D vwCl (mW 20 (rE gc) (ad, ln, (fM2 iv), lvk)) H ∧ va_D A (mW 20 (rE gc) (ad, ln, (fM2 iv), lvk)) ∧ va_S A s.heap H locs ∧ lv_has ls 8 [(0, .ref (ad 0)), (1, .long (fN iv lv lf)), (4, .int (nI j)), (5, .int (nI k))]) 206 (f, lv) ⟨⟨hPf, Nat.le_refl _⟩, rfl, hP, hD, hS, lv_sub hl [1, 2, 3, 0] rfl⟩ ?_
          intro z9 H locs ls hI ih
          obtain ⟨k, lvk⟩ := z9
          obtain ⟨hk, heq2, hP, hD, hS, hl⟩ := hI
          refine lv_iload hx hb dX7_noteFinal_206 (lv_at hl 3 rfl) ?_
          refine lv_iload hx hb dX7_noteFinal_208 (lv_at hl 2 rfl) ?_
          refine lv_icmp_le (tgt := 235) hx hb dX7_noteFinal_210 (by decide) (fun c_9 => ?_) (fun c_9 => ?_)
          · have hkj : k = j := by have := (nI_leI (by omega) (by omega)).mp c_9; omega
            have hlk : lvk = shR (f - j) f lv := by rw [← heq2, hkj, Nat.sub_self, shR]
            subst hlk
            refine lv_aload_n hx hb dX7_noteFinal_235 rfl (lv_at hl 0 rfl) ?_
            refine kr_get (C := "MonitorWaysModel") (T := TX7) (N := 27) hx hb hts hin_X7 hown hK hP 0 (by decide) (R_0 _ _ _ _) rfl 24 (by decide) lk_f63 (fun _ h9 => h9) rfl dX7_noteFinal_236 ?_
            refine lv_iload hx hb dX7_noteFinal_239 (lv_at hl 2 rfl) ?_
            refine lv_lload_n hx hb dX7_noteFinal_241 rfl (lv_at hl 1 rfl) ?_
            refine kr_lastN hx hb hK hP hD hS 18 2 (by decide) (fun _ => R_18 _ _ _ _) rfl (j := j) (by omega) (by decide) dX7_noteFinal_242 (fun H locs hP hD hS => ?_)
            refine lv_aload_n hx hb dX7_noteFinal_243 rfl (lv_at hl 0 rfl) ?_
            refine lv_dup hx hb dX7_noteFinal_244 rfl ?_
            refine kr_get (C := "MonitorWaysModel") (T := TX7) (N := 27) hx hb hts hin_X7 hown hK hP 0 (by decide) (R_0 _ _ _ _) rfl 23 (by decide) lk_f152 (fun _ h9 => h9) rfl dX7_noteFinal_245 ?_
            refine kr_topi (y := nI f) hf2 ?_
            refine lv_iconst (v := 1) hx hb dX7_noteFinal_248 (by decide) ?_
            refine lv_iadd hx hb dX7_noteFinal_249 ?_
            refine kr_topi (y := nI (f + 1)) (nI_add f 1) ?_
            refine kr_put (C := "MonitorWaysModel") (T := TX7) (N := 27) hx hb hts hin_X7 tyX7 ok_tyX7 ok_nX7 hown hK hP hD hS 0 (by decide) (fun _ => R_0 _ _ _ _) rfl 23 (by decide) lk_f152 (fun _ h9 => h9) rfl rfl rfl rfl (fun _ => Nat.le_of_ble_eq_true rfl) (fun _ => rfl) dX7_noteFinal_250 (fun H locs hP hD hS => ?_)
            exact kr_vret hx hb hr hlocks hK hP hD hS (mem4 (by unfold m_oFin; rw [if_neg hnn]) (by unfold n_oFin; rw [if_neg hnn, ← hje])) dX7_noteFinal_253
          · have hjk : j < k := by rcases Nat.lt_or_ge j k with h | h; exact h; exact absurd ((nI_leI (by omega) (by omega)).mpr h) c_9
            refine lv_aload_n hx hb dX7_noteFinal_213 rfl (lv_at hl 0 rfl) ?_
            refine kr_get (C := "MonitorWaysModel") (T := TX7) (N := 27) hx hb hts hin_X7 hown hK hP 0 (by decide) (R_0 _ _ _ _) rfl 24 (by decide) lk_f63 (fun _ h9 => h9) rfl dX7_noteFinal_214 ?_
            refine lv_iload hx hb dX7_noteFinal_217 (lv_at hl 3 rfl) ?_
            refine lv_aload_n hx hb dX7_noteFinal_219 rfl (lv_at hl 0 rfl) ?_
            refine kr_get (C := "MonitorWaysModel") (T := TX7) (N := 27) hx hb hts hin_X7 hown hK hP 0 (by decide) (R_0 _ _ _ _) rfl 24 (by decide) lk_f63 (fun _ h9 => h9) rfl dX7_noteFinal_220 ?_
            refine lv_iload hx hb dX7_noteFinal_223 (lv_at hl 3 rfl) ?_
            refine lv_iconst (v := 1) hx hb dX7_noteFinal_225 (by decide) ?_
            refine lv_isub hx hb dX7_noteFinal_226 ?_
            refine kr_topi (y := nI (k - 1)) (pk_sub (a := k) (b := 1) (by omega)) ?_
            refine kr_laldN hx hb hK hP 18 2 (by decide) (R_18 _ _ _ _) rfl (j := (k - 1)) (by omega) (by decide) dX7_noteFinal_227 ?_
            refine kr_lastN hx hb hK hP hD hS 18 2 (by decide) (fun _ => R_18 _ _ _ _) rfl (j := k) (by omega) (by decide) dX7_noteFinal_228 (fun H locs hP hD hS => ?_)
            refine lv_iinc (v := nI (k - 1)) (lv' := [(5, .int (nI (k - 1))), (0, .ref (ad 0)), (1, .long (fN iv lv lf)), (4, .int (nI j))]) hx hb dX7_noteFinal_229 hl (k := 3) rfl (sb_m1 (by omega)) (by decide) rfl (fun ls hl => ?_)
            refine lv_goto (tgt := 206) hx hb dX7_noteFinal_232 (by decide) ?_
            exact ih (k - 1, (up2L lvk 18 k (lvk 18 (k - 1)))) H locs ls ⟨⟨by omega, by omega⟩, (shR_s hjk).trans heq2, hP, hD, hS, lv_sub hl [1, 2, 3, 0] rfl⟩ (by show (k - 1) < k; omega)
        · replace c_8 : lv 18 j = fN iv lv lf := (lg_cmp_eq _ _).mp c_8
          have hyy : posL lv (fN iv lv lf) f 0 < f ∧ lv 18 (posL lv (fN iv lv lf) f 0) = fN iv lv lf := by rw [← hje]; exact ⟨hjf, c_8⟩
          exact kr_vret hx hb hr hlocks hK hP hD hS (mem4 (by unfold m_oFin; rw [if_pos hyy]) (by unfold n_oFin; rw [if_pos hyy])) dX7_noteFinal_199
      · replace c_6 : ¬ fN iv lv lf ≤ lv 18 j := (fun h => c_6 ((lg_cmp_ge _ _).mpr h))
        refine lv_iinc (v := nI (j + 1)) (lv' := [(4, .int (nI (j + 1))), (0, .ref (ad 0)), (1, .long (fN iv lv lf))]) hx hb dX7_noteFinal_172 hl (k := 2) rfl (nI_1 j) (by decide) rfl (fun ls hl => ?_)
        refine lv_goto (tgt := 151) hx hb dX7_noteFinal_175 (by decide) ?_
        exact ih (j + 1) H locs ls ⟨by omega, (posL_s hjf (Int64.not_le.mp c_6)).trans heq, hP, hD, hS, lv_sub hl [1, 2, 0] rfl⟩ (by show f - (j + 1) < f - j; omega)
  · have ht4 : t < 4 := lt_of_nle (a := 4) (by decide) (by omega) c_1
    refine lv_lconst (v := 1) hx hb dX7_noteFinal_23 (by decide) ?_
    refine lv_lstore (lv' := [(5, .long 1), (0, .ref (ad 0)), (1, .long (nfN (fM iv) lv lf t)), (3, .int (nfA (fM iv) t)), (4, .int (nI t))]) hx hb dX7_noteFinal_24 hl (by decide) rfl (fun ls hl => ?_)
    refine lv_iconst (v := 0) hx hb dX7_noteFinal_26 (by decide) ?_
    refine lv_istore (lv' := [(7, .int 0), (5, .long 1), (0, .ref (ad 0)), (1, .long (nfN (fM iv) lv lf t)), (3, .int (nfA (fM iv) t)), (4, .int (nI t))]) hx hb dX7_noteFinal_27 hl (by decide) rfl (fun ls hl => ?_)
    refine kr_loop (σ := Nat) (fun z9 => match z9 with | k => lf t - k) (fun z9 H locs ls => match z9 with | k => (k ≤ lf t) ∧ va_P D vwCl (mW 20 (rE gc) (ad, ln, (nfB (fM iv) t), lv)) H ∧ va_D A (mW 20 (rE gc) (ad, ln, (nfB (fM iv) t), lv)) ∧ va_S A s.heap H locs ∧ lv_has ls 8 [(0, .ref (ad 0)), (1, .long (nfN (fM iv) lv lf t)), (3, .int (nfA (fM iv) t)), (4, .int (nI t)), (5, .long (pwL k)), (7, .int (nI k))]) 29 (0) ⟨Nat.zero_le _, hP, hD, hS, lv_sub hl [2, 3, 4, 5, 1, 0] rfl⟩ ?_
    intro z9 H locs ls hI ih
    obtain ⟨k, hx9⟩ : ∃ z, z = z9 := ⟨_, rfl⟩
    subst hx9
    obtain ⟨hk, hP, hD, hS, hl⟩ := hI
    refine lv_iload hx hb dX7_noteFinal_29 (lv_at hl 5 rfl) ?_
    refine lv_aload_n hx hb dX7_noteFinal_31 rfl (lv_at hl 0 rfl) ?_
    refine kr_get (C := "MonitorWaysModel") (T := TX7) (N := 27) hx hb hts hin_X7 hown hK hP 0 (by decide) (R_0 _ _ _ _) rfl 7 (by decide) lk_f28 (fun _ h9 => h9) rfl dX7_noteFinal_32 ?_
    refine lv_iload hx hb dX7_noteFinal_35 (lv_at hl 3 rfl) ?_
    refine kr_ialdN hx hb hK hP 7 0 (by decide) (R_7 _ _ _ _) rfl (j := t) (by omega) (by decide) dX7_noteFinal_37 ?_
    refine kr_topi (y := nI (lf t)) ((congrFun (nfB_row (by decide) t) t).trans ((up2_ne (by decide)).trans (hlf t ht4))) ?_
    refine lv_icmp_ge (tgt := 55) hx hb dX7_noteFinal_38 (by decide) (fun c_10 => ?_) (fun c_10 => ?_)
    · have hke : lf t = k := by have := hl6 t ht4; have := (nI_leI (by omega) (by omega)).mp c_10; omega
      subst hke
      refine lv_aload_n hx hb dX7_noteFinal_55 rfl (lv_at hl 0 rfl) ?_
      refine kr_get (C := "MonitorWaysModel") (T := TX7) (N := 27) hx hb hts hin_X7 hown hK hP 0 (by decide) (R_0 _ _ _ _) rfl 5 (by decide) lk_f22 (fun _ h9 => h9) rfl dX7_noteFinal_56 ?_
      refine lv_iload hx hb dX7_noteFinal_59 (lv_at hl 3 rfl) ?_
      refine kr_ialdN hx hb hK hP 5 0 (by decide) (R_5 _ _ _ _) rfl (j := t) (by omega) (by decide) dX7_noteFinal_61 ?_
      refine lv_iconst (v := 4) hx hb dX7_noteFinal_62 (by decide) ?_
      refine lv_icmp_ne (tgt := 70) hx hb dX7_noteFinal_63 (by decide) (fun c_11 => ?_) (fun c_11 => ?_)
      · refine lv_iconst (v := 0) hx hb dX7_noteFinal_70 (by decide) ?_
        refine lv_istore (lv' := [(7, .int 0), (0, .ref (ad 0)), (1, .long (nfN (fM iv) lv lf t)), (3, .int (nfA (fM iv) t)), (4, .int (nI t)), (5, .long (pwL (lf t)))]) hx hb dX7_noteFinal_71 hl (by decide) rfl (fun ls hl => ?_)
        refine lv_iload hx hb dX7_noteFinal_73 (lv_at hl 0 rfl) ?_
        refine lv_if_ne (tgt := 80) hx hb dX7_noteFinal_75 (by decide) (fun c_12 => absurd (by decide) c_12) (fun c_12 => ?_)
        refine lv_iconst (v := 0) hx hb dX7_noteFinal_78 (by decide) ?_
        refine lv_istore_n (lv' := [(3, .int 0), (7, .int 0), (0, .ref (ad 0)), (1, .long (nfN (fM iv) lv lf t)), (4, .int (nI t)), (5, .long (pwL (lf t)))]) hx hb dX7_noteFinal_79 rfl hl (by decide) rfl (fun ls hl => ?_)
        refine lv_iload hx hb dX7_noteFinal_80 (lv_at hl 1 rfl) ?_
        refine lv_if_ne (tgt := 93) hx hb dX7_noteFinal_82 (by decide) (fun c_13 => absurd (by decide) c_13) (fun c_13 => ?_)
        refine lv_aload_n hx hb dX7_noteFinal_85 rfl (lv_at hl 2 rfl) ?_
        refine kr_get (C := "MonitorWaysModel") (T := TX7) (N := 27) hx hb hts hin_X7 hown hK hP 0 (by decide) (R_0 _ _ _ _) rfl 25 (by decide) lk_f66 (fun _ h9 => h9) rfl dX7_noteFinal_86 ?_
        refine lv_iload hx hb dX7_noteFinal_89 (lv_at hl 4 rfl) ?_
        refine lv_iconst (v := 1) hx hb dX7_noteFinal_91 (by decide) ?_
        refine kr_zastN hx hb hK hP hD hS 19 1 (by decide) (fun _ => R_19 _ _ _ _) rfl (j := t) (by omega) (by decide) (by decide) dX7_noteFinal_92 (fun H locs hP hD hS => ?_)
        refine lv_lload_n hx hb dX7_noteFinal_93 rfl (lv_at hl 3 rfl) ?_
        refine lv_ldc2 (v := 48611) hx hb hown lk_c187 dX7_noteFinal_94 ?_
        refine lv_lmul hx hb dX7_noteFinal_97 ?_
        refine lv_lload hx hb dX7_noteFinal_98 (lv_at hl 5 rfl) ?_
        refine lv_aload_n hx hb dX7_noteFinal_100 rfl (lv_at hl 2 rfl) ?_
        refine kr_get (C := "MonitorWaysModel") (T := TX7) (N := 27) hx hb hts hin_X7 hown hK hP 0 (by decide) (R_0 _ _ _ _) rfl 8 (by decide) lk_f31 (fun _ h9 => h9) rfl dX7_noteFinal_101 ?_
        refine lv_iload hx hb dX7_noteFinal_104 (lv_at hl 4 rfl) ?_
        refine kr_laldN hx hb hK hP 8 2 (by decide) (R_8 _ _ _ _) rfl (j := t) (by omega) (by decide) dX7_noteFinal_106 ?_
        refine lv_ladd hx hb dX7_noteFinal_107 ?_
        refine lv_ldc2 (v := 12) hx hb hown lk_c109 dX7_noteFinal_108 ?_
        refine lv_lmul hx hb dX7_noteFinal_111 ?_
        refine lv_ladd hx hb dX7_noteFinal_112 ?_
        refine lv_iload hx hb dX7_noteFinal_113 (lv_at hl 1 rfl) ?_
        refine lv_if_eq (tgt := 123) hx hb dX7_noteFinal_115 (by decide) (fun c_14 => ?_) (fun c_14 => absurd (by decide) c_14)
        refine lv_bipush (v := 7) hx hb dX7_noteFinal_123 (by decide) ?_
        refine lv_i2l hx hb dX7_noteFinal_125 rfl ?_
        refine lv_ladd hx hb dX7_noteFinal_126 ?_
        refine lv_lstore_n (lv' := [(1, .long ((((nfN (fM iv) lv lf t) * 48611) + (((pwL (lf t)) + (lv 8 t)) * 12)) + ((7 : Int32).toInt64))), (3, .int 0), (7, .int 0), (0, .ref (ad 0)), (4, .int (nI t)), (5, .long (pwL (lf t)))]) hx hb dX7_noteFinal_127 rfl hl (by decide) rfl (fun ls hl => ?_)
        refine lv_iinc (v := nI (t + 1)) (lv' := [(4, .int (nI (t + 1))), (1, .long ((((nfN (fM iv) lv lf t) * 48611) + (((pwL (lf t)) + (lv 8 t)) * 12)) + ((7 : Int32).toInt64))), (3, .int 0), (7, .int 0), (0, .ref (ad 0)), (5, .long (pwL (lf t)))]) hx hb dX7_noteFinal_128 hl (k := 4) rfl (nI_1 t) (by decide) rfl (fun ls hl => ?_)
        refine lv_goto (tgt := 17) hx hb dX7_noteFinal_131 (by decide) ?_
        have e1 : ((((nfN (fM iv) lv lf t) * 48611) + (((pwL (lf t)) + (lv 8 t)) * 12)) + ((7 : Int32).toInt64)) = nfN (fM iv) lv lf (t + 1) := by rw [nfN, if_neg c_11]
        have e3 : (0 : Int32) = nfA (fM iv) (t + 1) := by rw [nfA, if_neg c_11]
        have e2 : (up2 (nfB (fM iv) t) 19 t 1) = nfB (fM iv) (t + 1) := by rw [nfB, if_neg c_11]
        rw [e1, e3] at hl
        rw [e2] at hP hD
        exact iho (t + 1) H locs ls ⟨by omega, hP, hD, hS, lv_sub hl [4, 1, 2, 0] rfl⟩ (by show 4 - (t + 1) < 4 - t; omega)
      · refine lv_iconst (v := 1) hx hb dX7_noteFinal_66 (by decide) ?_
        refine lv_goto (tgt := 71) hx hb dX7_noteFinal_67 (by decide) ?_
        refine lv_istore (lv' := [(7, .int 1), (0, .ref (ad 0)), (1, .long (nfN (fM iv) lv lf t)), (3, .int (nfA (fM iv) t)), (4, .int (nI t)), (5, .long (pwL (lf t)))]) hx hb dX7_noteFinal_71 hl (by decide) rfl (fun ls hl => ?_)
        refine lv_iload hx hb dX7_noteFinal_73 (lv_at hl 0 rfl) ?_
        refine lv_if_ne (tgt := 80) hx hb dX7_noteFinal_75 (by decide) (fun c_15 => ?_) (fun c_15 => absurd c_15 (by decide))
        refine lv_iload hx hb dX7_noteFinal_80 (lv_at hl 0 rfl) ?_
        refine lv_if_ne (tgt := 93) hx hb dX7_noteFinal_82 (by decide) (fun c_16 => ?_) (fun c_16 => absurd c_16 (by decide))
        refine lv_lload_n hx hb dX7_noteFinal_93 rfl (lv_at hl 2 rfl) ?_
        refine lv_ldc2 (v := 48611) hx hb hown lk_c187 dX7_noteFinal_94 ?_
        refine lv_lmul hx hb dX7_noteFinal_97 ?_
        refine lv_lload hx hb dX7_noteFinal_98 (lv_at hl 5 rfl) ?_
        refine lv_aload_n hx hb dX7_noteFinal_100 rfl (lv_at hl 1 rfl) ?_
        refine kr_get (C := "MonitorWaysModel") (T := TX7) (N := 27) hx hb hts hin_X7 hown hK hP 0 (by decide) (R_0 _ _ _ _) rfl 8 (by decide) lk_f31 (fun _ h9 => h9) rfl dX7_noteFinal_101 ?_
        refine lv_iload hx hb dX7_noteFinal_104 (lv_at hl 4 rfl) ?_
        refine kr_laldN hx hb hK hP 8 2 (by decide) (R_8 _ _ _ _) rfl (j := t) (by omega) (by decide) dX7_noteFinal_106 ?_
        refine lv_ladd hx hb dX7_noteFinal_107 ?_
        refine lv_ldc2 (v := 12) hx hb hown lk_c109 dX7_noteFinal_108 ?_
        refine lv_lmul hx hb dX7_noteFinal_111 ?_
        refine lv_ladd hx hb dX7_noteFinal_112 ?_
        refine lv_iload hx hb dX7_noteFinal_113 (lv_at hl 0 rfl) ?_
        refine lv_if_eq (tgt := 123) hx hb dX7_noteFinal_115 (by decide) (fun c_17 => absurd c_17 (by decide)) (fun c_17 => ?_)
        refine lv_bipush (v := 6) hx hb dX7_noteFinal_118 (by decide) ?_
        refine lv_goto (tgt := 125) hx hb dX7_noteFinal_120 (by decide) ?_
        refine lv_i2l hx hb dX7_noteFinal_125 rfl ?_
        refine lv_ladd hx hb dX7_noteFinal_126 ?_
        refine lv_lstore_n (lv' := [(1, .long ((((nfN (fM iv) lv lf t) * 48611) + (((pwL (lf t)) + (lv 8 t)) * 12)) + ((6 : Int32).toInt64))), (7, .int 1), (0, .ref (ad 0)), (3, .int (nfA (fM iv) t)), (4, .int (nI t)), (5, .long (pwL (lf t)))]) hx hb dX7_noteFinal_127 rfl hl (by decide) rfl (fun ls hl => ?_)
        refine lv_iinc (v := nI (t + 1)) (lv' := [(4, .int (nI (t + 1))), (1, .long ((((nfN (fM iv) lv lf t) * 48611) + (((pwL (lf t)) + (lv 8 t)) * 12)) + ((6 : Int32).toInt64))), (7, .int 1), (0, .ref (ad 0)), (3, .int (nfA (fM iv) t)), (5, .long (pwL (lf t)))]) hx hb dX7_noteFinal_128 hl (k := 4) rfl (nI_1 t) (by decide) rfl (fun ls hl => ?_)
        refine lv_goto (tgt := 17) hx hb dX7_noteFinal_131 (by decide) ?_
        have e1 : ((((nfN (fM iv) lv lf t) * 48611) + (((pwL (lf t)) + (lv 8 t)) * 12)) + ((6 : Int32).toInt64)) = nfN (fM iv) lv lf (t + 1) := by rw [nfN, if_pos c_11]
        have e3 : nfA (fM iv) t = nfA (fM iv) (t + 1) := by rw [nfA, if_pos c_11]
        have e2 : (nfB (fM iv) t) = nfB (fM iv) (t + 1) := by rw [nfB, if_pos c_11]
        rw [e1, e3] at hl
        rw [e2] at hP hD
        exact iho (t + 1) H locs ls ⟨by omega, hP, hD, hS, lv_sub hl [3, 1, 4, 0] rfl⟩ (by show 4 - (t + 1) < 4 - t; omega)
    · have hkl : k < lf t := lt_of_nle (by have := hl6 t ht4; omega) (by have := hl6 t ht4; omega) c_10
      refine lv_lload hx hb dX7_noteFinal_41 (lv_at hl 4 rfl) ?_
      refine lv_ldc2 (v := 12) hx hb hown lk_c109 dX7_noteFinal_43 ?_
      refine lv_lmul hx hb dX7_noteFinal_46 ?_
      refine lv_lstore (lv' := [(5, .long ((pwL k) * 12)), (0, .ref (ad 0)), (1, .long (nfN (fM iv) lv lf t)), (3, .int (nfA (fM iv) t)), (4, .int (nI t)), (7, .int (nI k))]) hx hb dX7_noteFinal_47 hl (by decide) rfl (fun ls hl => ?_)
      refine lv_iinc (v := nI (k + 1)) (lv' := [(7, .int (nI (k + 1))), (5, .long ((pwL k) * 12)), (0, .ref (ad 0)), (1, .long (nfN (fM iv) lv lf t)), (3, .int (nfA (fM iv) t)), (4, .int (nI t))]) hx hb dX7_noteFinal_49 hl (k := 5) rfl (nI_1 k) (by decide) rfl (fun ls hl => ?_)
      refine lv_goto (tgt := 29) hx hb dX7_noteFinal_52 (by decide) ?_
      exact ih (k + 1) H locs ls ⟨by omega, hP, hD, hS, lv_sub hl [2, 3, 4, 5, 1, 0] rfl⟩ (by show lf t - (k + 1) < lf t - k; omega)
