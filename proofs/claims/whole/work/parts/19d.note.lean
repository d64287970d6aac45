def upR (f : Nat → Nat → Int64) (c : Nat) (r : Nat → Int64) : Nat → Nat → Int64 := fun a => if a = c then r else f a
/-- a number goes into the row of outcomes at place P of f -/
def insL (lv : Nat → Nat → Int64) (P f : Nat) (N : Int64) : Nat → Nat → Int64 := up2L (upR lv 41 (va_cpy (lv 41) (lv 41) P (P + 1) (f - P))) 41 P N
def lvO (lv : Nat → Nat → Int64) (m : Nat) : Nat → Nat → Int64 := fun j => if j = 41 then va_cpy (lv 41) (fun _ => 0) 0 0 m else lv j
def lnO (ln : Nat → Nat) (m : Nat) : Nat → Nat := fun j => if j = 41 then m * 2 else ln j
def fnd (lv : Nat → Nat → Int64) (N : Int64) (f : Nat) : Prop := bsr lv N 3000 0 f < f ∧ lv 41 (bsr lv N 3000 0 f) = N
theorem bsr_le {lv : Nat → Nat → Int64} {N : Int64} : ∀ (k lo hi : Nat), lo ≤ hi → bsr lv N k lo hi ≤ hi
  | 0, _, _, h => h
  | k + 1, lo, hi, h => by
    rw [bsr]
    split
    · split
      · exact bsr_le k _ _ (by omega)
      · exact Nat.le_trans (bsr_le k _ _ (by omega)) (by omega)
    · exact h
section KAC
variable {p : Program} {l : Launch} {e : Env} {R : Room} {s : State} {m : MethodId} {args : Array Value} {below : List Frame} {meth : Method} {c : Code} {H : Heap} {locs : List Loc} {cells slots : Nat} {Q : State → Prop}
variable {pc : Nat} {ls : Array Slot} {rest : List Value} {A : Nat → Prop} {H0 : Heap} {D : va_G} {cl : List vw_C} {tys : List (ClassId × FieldType)} {cc : ByteArray} {n : Nat} {E : KE} {ad ln : Nat → Nat} {iv : Nat → Nat → Int32} {lv : Nat → Nat → Int64}
/-- System.arraycopy within one array of longs -/
theorem kr_acopy (hx : p.tables.exec = Jvm.exec) (hb : c.code = cc) (hml : c.maxLocals = ls.size) {own : String} {index : Nat} (hown : s.vm.findClass own = some m.cls) (hlink : (Cond.methodLink own index arraycopyName).before args s = true) (hnat : (Cond.native arraycopyName).before args s = true) (hstat : (Cond.static arraycopyName).before args s = true) (hini : (Cond.initialized "java/lang/System").before args s = true) (hK : va_K D cl tys s) (hP : va_P D cl (mW n E (ad, ln, iv, lv)) H) (hD : va_D A (mW n E (ad, ln, iv, lv))) (hS : va_S A H0 H locs) (q t0 : Nat) (hq : q < n) {cA : ClassId} {N : Nat} (hE : ∀ r, E ad ln (iv q) r q = .inl (cA, N, .inr (.inl r))) (ht : tys[t0]? = some (cA, .long)) {sp dp k : Nat} (hN : N < 2 ^ 31) (h4 : sp + k ≤ N) (h5 : dp + k ≤ N) (hfr : 1 ≤ R.frames) (hlo : (rest.map fun v => v.category).sum + (nativeFrameWords "java/lang/System" "arraycopy" 5 + 11) ≤ R.locals) (hdg : decode cc pc = .ok (.invokestatic index, 3))
    (kk : ∀ (H1 : Heap) (locs1 : List Loc), va_P D cl (mW n E (ad, ln, iv, upR lv q (va_cpy (lv q) (lv q) sp dp k))) H1 → va_D A (mW n E (ad, ln, iv, upR lv q (va_cpy (lv q) (lv q) sp dp k))) → va_S A H0 H1 locs1 → W p l e R s m args below meth c H1 locs1 cells slots Q (F0 m (pc + 3) ls rest)) : W p l e R s m args below meth c H locs cells slots Q (F0 m pc ls (.int (nI k) :: .int (nI dp) :: .ref (ad q) :: .int (nI sp) :: .ref (ad q) :: rest)) := by
  have hg : (mW n E (ad, ln, iv, lv))[q]? = some (ad q, .inl (cA, N, .inr (.inl (lv q)))) := by rw [mW_get hq]; show some (ad q, E ad ln (iv q) (lv q) q) = _; rw [hE]
  have e1 : (nI sp).toNatClampNeg = sp := nI_clamp (by omega)
  have e2 : (nI dp).toNatClampNeg = dp := nI_clamp (by omega)
  have e3 : (nI k).toNatClampNeg = k := nI_clamp (by omega)
  have hset : (mW n E (ad, ln, iv, lv)).set q (ad q, .inl (cA, N, .inr (.inl (va_cpy (lv q) (lv q) sp dp k)))) = mW n E (ad, ln, iv, upR lv q (va_cpy (lv q) (lv q) sp dp k)) := by
    refine mW_setG (M := (ad, ln, iv, lv)) (M' := (ad, ln, iv, upR lv q (va_cpy (lv q) (lv q) sp dp k))) hq ?_ (fun _ => rfl) (fun j _ hj => ?_)
    · show E ad ln (iv q) (upR lv q (va_cpy (lv q) (lv q) sp dp k) q) q = _
      rw [show upR lv q (va_cpy (lv q) (lv q) sp dp k) q = va_cpy (lv q) (lv q) sp dp k from if_pos rfl, hE]
    · show E ad ln (iv j) (upR lv q (va_cpy (lv q) (lv q) sp dp k) j) j = E ad ln (iv j) (lv j) j
      rw [show upR lv q (va_cpy (lv q) (lv q) sp dp k) j = lv j from if_neg hj]
  refine va_copyl (ty := .long) hx hb hml hown hlink hnat hstat hini hK hP hD hS q q t0 t0 hg hg ht ht rfl (nI_pos (by omega)) (nI_pos (by omega)) (nI_pos (by omega)) (by rw [e1, e3]; exact h4) (by rw [e2, e3]; exact h5) (fun _ _ => rfl) hfr hlo hdg (fun H1 locs1 h1 h2 h3 => kk H1 locs1 ?_ ?_ h3)
  · rw [e1, e2, e3, hset] at h1; exact h1
  · rw [e1, e2, e3, hset] at h2; exact h2
end KAC
noncomputable def m_hNote (iv : Nat → Nat → Int32) (lv : Nat → Nat → Int64) (N : Int64) (f : Nat) : Nat → Nat → Int32 := @ite _ (fnd lv N f) (Classical.propDecidable _) iv (up2 iv 36 10 (nI (f + 1)))
noncomputable def n_hNote (lv : Nat → Nat → Int64) (N : Int64) (f : Nat) : Nat → Nat → Int64 := @ite _ (fnd lv N f) (Classical.propDecidable _) lv (insL lv (bsr lv N 3000 0 f) f N)
set_option maxHeartbeats 4000000 in
set_option maxRecDepth 100000 in
theorem c_hNote (l : Launch) (D : va_G) (gc : Nat → ClassId) (ad ln : Nat → Nat) (iv : Nat → Nat → Int32) (lv : Nat → Nat → Int64) (N : Int64) (f : Nat) (hf : iv 36 10 = nI f) (hno : ln 41 < 2 ^ 31) (hf1 : f ≤ ln 41) (hf3 : f ≤ 3000) (hgr : ¬ fnd lv N f → f < ln 41) : kMvX l yX3_noteOutcome wX3_noteOutcome ({ frames := 2, cells := 0, slots := 0, locals := 120 }) D vwCl (kT gc) 42 (kE gc) [.ref (ad 36), .long N] (ad, ln, iv, lv) (ln, m_hNote iv lv N f, n_hNote lv N f) := by
  refine kvX_start (cc := cX3_noteOutcome) (maxL := 4) (by decide) rfl (Nat.le_of_ble_eq_true rfl) ?_
  intro p9 e9 s m9 below meth c9 A ls hx hb hr hts hown hlocks hml hA hK hP hD hS hl
  obtain ⟨M0, hM0⟩ : ∃ z : KM, z = (ad, ln, iv, lv) := ⟨_, rfl⟩
  rw [← hM0]
  have hag : ∀ c, c < 39 → ad c = M0.1 c := fun c _ => by rw [hM0]
  have hl : lv_has ls 4 [(0, .ref (ad 36)), (1, .long N)] := hl
  have hown : s.vm.findClass "MonitorWays$Search" = some m9.cls := hown
  have hin_X3 : ∀ w ∈ u_ws "MonitorWays$Search" TX3 11, w ∈ wX3_noteOutcome := fun w h => tcons (inX3 w h)
  have lk_f47 := hts _ (tcons tw_182)
  have lk_f22 := hts _ (tcons tw_181)
  obtain ⟨P, hPE⟩ : ∃ z, z = bsr lv N 3000 0 f := ⟨_, rfl⟩
  have hPf : P ≤ f := by rw [hPE]; exact bsr_le _ _ _ (Nat.zero_le _)
  refine lv_aload_n hx hb dX3_noteOutcome_0 rfl (lv_at hl 0 rfl) ?_
  refine lv_lload_n hx hb dX3_noteOutcome_1 rfl (lv_at hl 1 rfl) ?_
  refine kr_callVi (As := [.long N]) (rest := []) ⟨hx, hb, hml, hown, hts⟩ (c_hLess l D gc ad ln iv lv N f hf hno hf1 hf3) (cwV 1 hts (goodV (fun _ h => tcons h) tw_523 tw_525 ts_23 tw_6 tw_526) rfl rfl rfl (by decide +kernel) ⟨Nat.le_of_ble_eq_true rfl, Nat.le_of_ble_eq_true rfl⟩) (kr_recv hK hP 36 (by decide) (E_srch _ _ _ _) rfl) hK hP hD hS hA rfl hl.1 rfl (Nat.le_of_ble_eq_true rfl) dX3_noteOutcome_2 ⟨by (try dsimp only) <;> omega, by (try dsimp only) <;> omega⟩ (fun H locs hP hD hS => ?_)
  refine kr_topi (y := nI P) (congrArg nI hPE.symm) ?_
  refine lv_istore_n (lv' := [(3, .int (nI P)), (0, .ref (ad 36)), (1, .long N)]) hx hb dX3_noteOutcome_5 rfl hl (by decide) rfl (fun ls hl => ?_)
  refine lv_iload_n hx hb dX3_noteOutcome_6 rfl (lv_at hl 0 rfl) ?_
  refine lv_aload_n hx hb dX3_noteOutcome_7 rfl (lv_at hl 1 rfl) ?_
  refine kr_get (C := "MonitorWays$Search") (T := TX3) (N := 11) hx hb hts hin_X3 hown hK hP 36 (by decide) (E_srch _ _ _ _) rfl 10 (by decide) lk_f47 (fun _ h9 => h9) rfl dX3_noteOutcome_8 ?_
  refine kr_topi (y := nI f) hf ?_
  refine lv_icmp_ge (tgt := 26) hx hb dX3_noteOutcome_11 (by decide) (fun c_1 => ?_) (fun c_1 => ?_)
  · have hnn : ¬ fnd lv N f := by unfold fnd; rw [← hPE]; have := (nI_leI (by omega) (by omega)).mp c_1; omega
    have hfl := hgr hnn
    refine lv_aload_n hx hb dX3_noteOutcome_26 rfl (lv_at hl 1 rfl) ?_
    refine kr_get (C := "MonitorWays$Search") (T := TX3) (N := 11) hx hb hts hin_X3 hown hK hP 36 (by decide) (E_srch _ _ _ _) rfl 10 (by decide) lk_f47 (fun _ h9 => h9) rfl dX3_noteOutcome_27 ?_
    refine kr_topi (y := nI f) hf ?_
    refine lv_aload_n hx hb dX3_noteOutcome_30 rfl (lv_at hl 1 rfl) ?_
    refine kr_get (C := "MonitorWays$Search") (T := TX3) (N := 11) hx hb hts hin_X3 hown hK hP 36 (by decide) (E_srch _ _ _ _) rfl 9 (by decide) lk_f22 (fun _ h9 => h9) rfl dX3_noteOutcome_31 ?_
    refine kr_alen hx hb hK hP 41 2 (by decide) (E_outs _ _ _ _) rfl rfl dX3_noteOutcome_34 ?_
    refine lv_icmp_lt (tgt := 56) hx hb dX3_noteOutcome_35 (by decide) (fun c_2 => ?_) (fun c_2 => absurd ((nI_ltI (by omega) (by omega)).mpr hfl) c_2)
    refine lv_aload_n hx hb dX3_noteOutcome_56 rfl (lv_at hl 1 rfl) ?_
    refine kr_get (C := "MonitorWays$Search") (T := TX3) (N := 11) hx hb hts hin_X3 hown hK hP 36 (by decide) (E_srch _ _ _ _) rfl 9 (by decide) lk_f22 (fun _ h9 => h9) rfl dX3_noteOutcome_57 ?_
    refine lv_iload_n hx hb dX3_noteOutcome_60 rfl (lv_at hl 0 rfl) ?_
    refine lv_aload_n hx hb dX3_noteOutcome_61 rfl (lv_at hl 1 rfl) ?_
    refine kr_get (C := "MonitorWays$Search") (T := TX3) (N := 11) hx hb hts hin_X3 hown hK hP 36 (by decide) (E_srch _ _ _ _) rfl 9 (by decide) lk_f22 (fun _ h9 => h9) rfl dX3_noteOutcome_62 ?_
    refine lv_iload_n hx hb dX3_noteOutcome_65 rfl (lv_at hl 0 rfl) ?_
    refine lv_iconst (v := 1) hx hb dX3_noteOutcome_66 (by decide) ?_
    refine lv_iadd hx hb dX3_noteOutcome_67 ?_
    refine kr_topi (y := nI (P + 1)) (nI_add P 1) ?_
    refine lv_aload_n hx hb dX3_noteOutcome_68 rfl (lv_at hl 1 rfl) ?_
    refine kr_get (C := "MonitorWays$Search") (T := TX3) (N := 11) hx hb hts hin_X3 hown hK hP 36 (by decide) (E_srch _ _ _ _) rfl 10 (by decide) lk_f47 (fun _ h9 => h9) rfl dX3_noteOutcome_69 ?_
    refine kr_topi (y := nI f) hf ?_
    refine lv_iload_n hx hb dX3_noteOutcome_72 rfl (lv_at hl 0 rfl) ?_
    refine lv_isub hx hb dX3_noteOutcome_73 ?_
    refine kr_topi (y := nI (f - P)) (pk_sub (a := f) (b := P) (by omega)) ?_
    refine kr_acopy (sp := P) (dp := P + 1) (k := f - P) (rest := []) hx hb (hml.trans hl.1.symm) hown (hts _ (tcons tw_528)) (hts _ (tcons tw_446)) (hts _ (tcons tw_445)) (hts _ (tcons tw_11)) hK hP hD hS 41 2 (by decide) (fun _ => E_outs _ _ _ _) rfl hno (by omega) (by omega) (Nat.le_of_ble_eq_true rfl) (Nat.le_of_ble_eq_true rfl) dX3_noteOutcome_74 (fun H locs hP hD hS => ?_)
    refine lv_aload_n hx hb dX3_noteOutcome_77 rfl (lv_at hl 1 rfl) ?_
    refine kr_get (C := "MonitorWays$Search") (T := TX3) (N := 11) hx hb hts hin_X3 hown hK hP 36 (by decide) (E_srch _ _ _ _) rfl 9 (by decide) lk_f22 (fun _ h9 => h9) rfl dX3_noteOutcome_78 ?_
    refine lv_iload_n hx hb dX3_noteOutcome_81 rfl (lv_at hl 0 rfl) ?_
    refine lv_lload_n hx hb dX3_noteOutcome_82 rfl (lv_at hl 2 rfl) ?_
    refine kr_lastN hx hb hK hP hD hS 41 2 (by decide) (fun _ => E_outs _ _ _ _) rfl (j := P) (by omega) hno dX3_noteOutcome_83 (fun H locs hP hD hS => ?_)
    refine lv_aload_n hx hb dX3_noteOutcome_84 rfl (lv_at hl 1 rfl) ?_
    refine lv_dup hx hb dX3_noteOutcome_85 rfl ?_
    refine kr_get (C := "MonitorWays$Search") (T := TX3) (N := 11) hx hb hts hin_X3 hown hK hP 36 (by decide) (E_srch _ _ _ _) rfl 10 (by decide) lk_f47 (fun _ h9 => h9) rfl dX3_noteOutcome_86 ?_
    refine kr_topi (y := nI f) hf ?_
    refine lv_iconst (v := 1) hx hb dX3_noteOutcome_89 (by decide) ?_
    refine lv_iadd hx hb dX3_noteOutcome_90 ?_
    refine kr_topi (y := nI (f + 1)) (nI_add f 1) ?_
    refine kr_put (C := "MonitorWays$Search") (T := TX3) (N := 11) hx hb hts hin_X3 tyX3 ok_tyX3 ok_nX3 hown hK hP hD hS 36 (by decide) (fun _ => E_srch _ _ _ _) rfl 10 (by decide) lk_f47 (fun _ h9 => h9) rfl rfl rfl rfl (fun _ => Nat.le_of_ble_eq_true rfl) (fun _ => rfl) dX3_noteOutcome_91 (fun H locs hP hD hS => ?_)
    exact kr_vretX (M := M0) hx hb hr hlocks hK hP hD hS (mem3 (by unfold m_hNote; rw [if_neg hnn]) (by unfold n_hNote; rw [if_neg hnn, ← hPE]; rfl)) hag dX3_noteOutcome_94
  · have hPlt : P < f := lt_of_nle (by omega) (by omega) c_1
    refine lv_aload_n hx hb dX3_noteOutcome_14 rfl (lv_at hl 1 rfl) ?_
    refine kr_get (C := "MonitorWays$Search") (T := TX3) (N := 11) hx hb hts hin_X3 hown hK hP 36 (by decide) (E_srch _ _ _ _) rfl 9 (by decide) lk_f22 (fun _ h9 => h9) rfl dX3_noteOutcome_15 ?_
    refine lv_iload_n hx hb dX3_noteOutcome_18 rfl (lv_at hl 0 rfl) ?_
    refine kr_laldN hx hb hK hP 41 2 (by decide) (E_outs _ _ _ _) rfl (j := P) (by omega) hno dX3_noteOutcome_19 ?_
    refine lv_lload_n hx hb dX3_noteOutcome_20 rfl (lv_at hl 2 rfl) ?_
    refine W.lcmp hx hb dX3_noteOutcome_21 ?_
    refine lv_if_ne (tgt := 26) hx hb dX3_noteOutcome_22 (by decide) (fun c_3 => ?_) (fun c_3 => ?_)
    · replace c_3 : ¬ lv 41 P = N := (fun h => c_3 ((lg_cmp_eq _ _).mpr h))
      have hnn : ¬ fnd lv N f := by unfold fnd; rw [← hPE]; exact fun h => c_3 h.2
      have hfl := hgr hnn
      refine lv_aload_n hx hb dX3_noteOutcome_26 rfl (lv_at hl 1 rfl) ?_
      refine kr_get (C := "MonitorWays$Search") (T := TX3) (N := 11) hx hb hts hin_X3 hown hK hP 36 (by decide) (E_srch _ _ _ _) rfl 10 (by decide) lk_f47 (fun _ h9 => h9) rfl dX3_noteOutcome_27 ?_
      refine kr_topi (y := nI f) hf ?_
      refine lv_aload_n hx hb dX3_noteOutcome_30 rfl (lv_at hl 1 rfl) ?_
      refine kr_get (C := "MonitorWays$Search") (T := TX3) (N := 11) hx hb hts hin_X3 hown hK hP 36 (by decide) (E_srch _ _ _ _) rfl 9 (by decide) lk_f22 (fun _ h9 => h9) rfl dX3_noteOutcome_31 ?_
      refine kr_alen hx hb hK hP 41 2 (by decide) (E_outs _ _ _ _) rfl rfl dX3_noteOutcome_34 ?_
      refine lv_icmp_lt (tgt := 56) hx hb dX3_noteOutcome_35 (by decide) (fun c_4 => ?_) (fun c_4 => absurd ((nI_ltI (by omega) (by omega)).mpr hfl) c_4)
      refine lv_aload_n hx hb dX3_noteOutcome_56 rfl (lv_at hl 1 rfl) ?_
      refine kr_get (C := "MonitorWays$Search") (T := TX3) (N := 11) hx hb hts hin_X3 hown hK hP 36 (by decide) (E_srch _ _ _ _) rfl 9 (by decide) lk_f22 (fun _ h9 => h9) rfl dX3_noteOutcome_57 ?_
      refine lv_iload_n hx hb dX3_noteOutcome_60 rfl (lv_at hl 0 rfl) ?_
      refine lv_aload_n hx hb dX3_noteOutcome_61 rfl (lv_at hl 1 rfl) ?_
      refine kr_get (C := "MonitorWays$Search") (T := TX3) (N := 11) hx hb hts hin_X3 hown hK hP 36 (by decide) (E_srch _ _ _ _) rfl 9 (by decide) lk_f22 (fun _ h9 => h9) rfl dX3_noteOutcome_62 ?_
      refine lv_iload_n hx hb dX3_noteOutcome_65 rfl (lv_at hl 0 rfl) ?_
      refine lv_iconst (v := 1) hx hb dX3_noteOutcome_66 (by decide) ?_
      refine lv_iadd hx hb dX3_noteOutcome_67 ?_
      refine kr_topi (y := nI (P + 1)) (nI_add P 1) ?_
      refine lv_aload_n hx hb dX3_noteOutcome_68 rfl (lv_at hl 1 rfl) ?_
      refine kr_get (C := "MonitorWays$Search") (T := TX3) (N := 11) hx hb hts hin_X3 hown hK hP 36 (by decide) (E_srch _ _ _ _) rfl 10 (by decide) lk_f47 (fun _ h9 => h9) rfl dX3_noteOutcome_69 ?_
      refine kr_topi (y := nI f) hf ?_
      refine lv_iload_n hx hb dX3_noteOutcome_72 rfl (lv_at hl 0 rfl) ?_
      refine lv_isub hx hb dX3_noteOutcome_73 ?_
      refine kr_topi (y := nI (f - P)) (pk_sub (a := f) (b := P) (by omega)) ?_
      refine kr_acopy (sp := P) (dp := P + 1) (k := f - P) (rest := []) hx hb (hml.trans hl.1.symm) hown (hts _ (tcons tw_528)) (hts _ (tcons tw_446)) (hts _ (tcons tw_445)) (hts _ (tcons tw_11)) hK hP hD hS 41 2 (by decide) (fun _ => E_outs _ _ _ _) rfl hno (by omega) (by omega) (Nat.le_of_ble_eq_true rfl) (Nat.le_of_ble_eq_true rfl) dX3_noteOutcome_74 (fun H locs hP hD hS => ?_)
      refine lv_aload_n hx hb dX3_noteOutcome_77 rfl (lv_at hl 1 rfl) ?_
      refine kr_get (C := "MonitorWays$Search") (T := TX3) (N := 11) hx hb hts hin_X3 hown hK hP 36 (by decide) (E_srch _ _ _ _) rfl 9 (by decide) lk_f22 (fun _ h9 => h9) rfl dX3_noteOutcome_78 ?_
      refine lv_iload_n hx hb dX3_noteOutcome_81 rfl (lv_at hl 0 rfl) ?_
      refine lv_lload_n hx hb dX3_noteOutcome_82 rfl (lv_at hl 2 rfl) ?_
      refine kr_lastN hx hb hK hP hD hS 41 2 (by decide) (fun _ => E_outs _ _ _ _) rfl (j := P) (by omega) hno dX3_noteOutcome_83 (fun H locs hP hD hS => ?_)
      refine lv_aload_n hx hb dX3_noteOutcome_84 rfl (lv_at hl 1 rfl) ?_
      refine lv_dup hx hb dX3_noteOutcome_85 rfl ?_
      refine kr_get (C := "MonitorWays$Search") (T := TX3) (N := 11) hx hb hts hin_X3 hown hK hP 36 (by decide) (E_srch _ _ _ _) rfl 10 (by decide) lk_f47 (fun _ h9 => h9) rfl dX3_noteOutcome_86 ?_
      refine kr_topi (y := nI f) hf ?_
      refine lv_iconst (v := 1) hx hb dX3_noteOutcome_89 (by decide) ?_
      refine lv_iadd hx hb dX3_noteOutcome_90 ?_
      refine kr_topi (y := nI (f + 1)) (nI_add f 1) ?_
      refine kr_put (C := "MonitorWays$Search") (T := TX3) (N := 11) hx hb hts hin_X3 tyX3 ok_tyX3 ok_nX3 hown hK hP hD hS 36 (by decide) (fun _ => E_srch _ _ _ _) rfl 10 (by decide) lk_f47 (fun _ h9 => h9) rfl rfl rfl rfl (fun _ => Nat.le_of_ble_eq_true rfl) (fun _ => rfl) dX3_noteOutcome_91 (fun H locs hP hD hS => ?_)
      exact kr_vretX (M := M0) hx hb hr hlocks hK hP hD hS (mem3 (by unfold m_hNote; rw [if_neg hnn]) (by unfold n_hNote; rw [if_neg hnn, ← hPE]; rfl)) hag dX3_noteOutcome_94
    · replace c_3 : lv 41 P = N := (lg_cmp_eq _ _).mp c_3
      have hyy : fnd lv N f := by unfold fnd; rw [← hPE]; exact ⟨lt_of_nle (by omega) (by omega) c_1, c_3⟩
      exact kr_vretX (M := M0) hx hb hr hlocks hK hP hD hS (mem3 (by unfold m_hNote; rw [if_pos hyy]) (by unfold n_hNote; rw [if_pos hyy])) hag dX3_noteOutcome_25
set_option maxHeartbeats 4000000 in
set_option maxRecDepth 100000 in
theorem c_hNoteG (l : Launch) (D : va_G) (gc : Nat → ClassId) (ad ln : Nat → Nat) (iv : Nat → Nat → Int32) (lv : Nat → Nat → Int64) (N : Int64) (f : Nat) (hf : iv 36 10 = nI f) (hno : ln 41 < 2 ^ 31) (hf1 : f ≤ ln 41) (hf3 : f ≤ 3000) (hfe : ln 41 = f) (hf0 : 0 < f) (hnf : ¬ fnd lv N f) : kMvX l yX3_noteOutcome wX3_noteOutcome ({ frames := 2, cells := 1, slots := f * 2, locals := 120 }) D vwCl (kT gc) 42 (kE gc) [.ref (ad 36), .long N] (ad, ln, iv, lv) (lnO ln f, up2 iv 36 10 (nI (f + 1)), insL (lvO lv f) (bsr lv N 3000 0 f) f N) := by
  refine kvX_start (cc := cX3_noteOutcome) (maxL := 4) (by decide) rfl (Nat.le_of_ble_eq_true rfl) ?_
  intro p9 e9 s m9 below meth c9 A ls hx hb hr hts hown hlocks hml hA hK hP hD hS hl
  obtain ⟨M0, hM0⟩ : ∃ z : KM, z = (ad, ln, iv, lv) := ⟨_, rfl⟩
  rw [← hM0]
  have hag : ∀ c, c < 39 → ad c = M0.1 c := fun c _ => by rw [hM0]
  have hl : lv_has ls 4 [(0, .ref (ad 36)), (1, .long N)] := hl
  have hown : s.vm.findClass "MonitorWays$Search" = some m9.cls := hown
  have hin_X3 : ∀ w ∈ u_ws "MonitorWays$Search" TX3 11, w ∈ wX3_noteOutcome := fun w h => tcons (inX3 w h)
  have lk_f47 := hts _ (tcons tw_182)
  have lk_f22 := hts _ (tcons tw_181)
  obtain ⟨P, hPE⟩ : ∃ z, z = bsr lv N 3000 0 f := ⟨_, rfl⟩
  have hPf : P ≤ f := by rw [hPE]; exact bsr_le _ _ _ (Nat.zero_le _)
  refine lv_aload_n hx hb dX3_noteOutcome_0 rfl (lv_at hl 0 rfl) ?_
  refine lv_lload_n hx hb dX3_noteOutcome_1 rfl (lv_at hl 1 rfl) ?_
  refine kr_callVi (As := [.long N]) (rest := []) ⟨hx, hb, hml, hown, hts⟩ (c_hLess l D gc ad ln iv lv N f hf hno hf1 hf3) (cwV 1 hts (goodV (fun _ h => tcons h) tw_523 tw_525 ts_23 tw_6 tw_526) rfl rfl rfl (by decide +kernel) ⟨Nat.le_of_ble_eq_true rfl, Nat.le_of_ble_eq_true rfl⟩) (kr_recv hK hP 36 (by decide) (E_srch _ _ _ _) rfl) hK hP hD hS hA rfl hl.1 rfl (Nat.le_of_ble_eq_true rfl) dX3_noteOutcome_2 ⟨by (try dsimp only) <;> omega, by (try dsimp only) <;> omega⟩ (fun H locs hP hD hS => ?_)
  refine kr_topi (y := nI P) (congrArg nI hPE.symm) ?_
  refine lv_istore_n (lv' := [(3, .int (nI P)), (0, .ref (ad 36)), (1, .long N)]) hx hb dX3_noteOutcome_5 rfl hl (by decide) rfl (fun ls hl => ?_)
  refine lv_iload_n hx hb dX3_noteOutcome_6 rfl (lv_at hl 0 rfl) ?_
  refine lv_aload_n hx hb dX3_noteOutcome_7 rfl (lv_at hl 1 rfl) ?_
  refine kr_get (C := "MonitorWays$Search") (T := TX3) (N := 11) hx hb hts hin_X3 hown hK hP 36 (by decide) (E_srch _ _ _ _) rfl 10 (by decide) lk_f47 (fun _ h9 => h9) rfl dX3_noteOutcome_8 ?_
  refine kr_topi (y := nI f) hf ?_
  refine lv_icmp_ge (tgt := 26) hx hb dX3_noteOutcome_11 (by decide) (fun c_1 => ?_) (fun c_1 => ?_)
  · refine lv_aload_n hx hb dX3_noteOutcome_26 rfl (lv_at hl 1 rfl) ?_
    refine kr_get (C := "MonitorWays$Search") (T := TX3) (N := 11) hx hb hts hin_X3 hown hK hP 36 (by decide) (E_srch _ _ _ _) rfl 10 (by decide) lk_f47 (fun _ h9 => h9) rfl dX3_noteOutcome_27 ?_
    refine kr_topi (y := nI f) hf ?_
    refine lv_aload_n hx hb dX3_noteOutcome_30 rfl (lv_at hl 1 rfl) ?_
    refine kr_get (C := "MonitorWays$Search") (T := TX3) (N := 11) hx hb hts hin_X3 hown hK hP 36 (by decide) (E_srch _ _ _ _) rfl 9 (by decide) lk_f22 (fun _ h9 => h9) rfl dX3_noteOutcome_31 ?_
    refine kr_alen hx hb hK hP 41 2 (by decide) (E_outs _ _ _ _) rfl rfl dX3_noteOutcome_34 ?_
    refine lv_icmp_lt (tgt := 56) hx hb dX3_noteOutcome_35 (by decide) (fun c_2 => absurd c_2 (fun h => absurd ((nI_ltI (by omega) (by omega)).mp h) (by omega))) (fun c_2 => ?_)
    refine lv_aload_n hx hb dX3_noteOutcome_38 rfl (lv_at hl 1 rfl) ?_
    refine lv_aload_n hx hb dX3_noteOutcome_39 rfl (lv_at hl 1 rfl) ?_
    refine kr_get (C := "MonitorWays$Search") (T := TX3) (N := 11) hx hb hts hin_X3 hown hK hP 36 (by decide) (E_srch _ _ _ _) rfl 9 (by decide) lk_f22 (fun _ h9 => h9) rfl dX3_noteOutcome_40 ?_
    refine lv_aload_n hx hb dX3_noteOutcome_43 rfl (lv_at hl 1 rfl) ?_
    refine kr_get (C := "MonitorWays$Search") (T := TX3) (N := 11) hx hb hts hin_X3 hown hK hP 36 (by decide) (E_srch _ _ _ _) rfl 9 (by decide) lk_f22 (fun _ h9 => h9) rfl dX3_noteOutcome_44 ?_
    refine kr_alen hx hb hK hP 41 2 (by decide) (E_outs _ _ _ _) rfl rfl dX3_noteOutcome_47 ?_
    refine lv_iconst (v := 2) hx hb dX3_noteOutcome_48 (by decide) ?_
    refine lv_imul hx hb dX3_noteOutcome_49 ?_
    refine kr_topi (y := nI ((ln 41) * 2)) (pk_mul (ln 41) 2) ?_
    rw [hfe]
    refine kr_copyOf (M := (ad, ln, iv, lv)) (cI := 41) (n0 := f) (n1 := f * 2) (f := lv 41) (rest := [.ref (ad 36)]) (by omega) (by omega) ⟨hx, hb, hml, hown, hts⟩ ⟨callB_of 2 hts (goodC (fun _ h => tcons h) tw_433) rfl rfl rfl (hts _ (tcons tw_9)) (hts _ (tcons tw_527)) (by decide +kernel) ⟨Nat.le_of_ble_eq_true rfl, Nat.le_of_ble_eq_true rfl⟩, hts _ (tcons tw_432)⟩ hK hP hD hS hA (by decide) ((E_outs ad ln (iv 41) (lv 41)).trans (by rw [hfe])) hl.1 (Nat.le_of_ble_eq_true rfl) dX3_noteOutcome_50 ⟨Nat.le_of_ble_eq_true rfl, by show 0 + f * 2 ≤ f * 2; omega⟩ (fun q2 H locs hP hD hS => ?_)
    refine kr_putA (C := "MonitorWays$Search") (T := TX3) (N := 11) hx hb hts hin_X3 tyX3 ok_tyX3 ok_nX3 hown hK hP hD hS 36 (by decide) (E_srch _ _ _ _) rfl 9 (by decide) lk_f22 (fun _ h9 => h9) rfl rfl rfl rfl (Nat.le_of_ble_eq_true rfl) ((fun j => if j = 41 then q2 else ad j), lnO ln f, iv, lvO lv f) 41 (by decide) (by decide) rfl (fun j _ h => if_neg h) rfl rfl (kE_keep (by decide) (fun j h => if_neg h) (fun j h => by first | exact if_neg h | rfl) (fun j h => by first | exact if_neg h | rfl) (fun j h => by first | exact if_neg h | rfl)) dX3_noteOutcome_53 (fun H locs hP hD hS => ?_)
    have hag : ∀ c, c < 39 → (fun j => if j = 41 then q2 else ad j) c = M0.1 c := fun c hc => (if_neg (by omega)).trans (hag c hc)
    have hl : lv_has ls 4 [(3, .int (nI P)), (0, .ref ((fun j => if j = 41 then q2 else ad j) 36)), (1, .long N)] := hl
    obtain ⟨ad, had2⟩ : ∃ z : Nat → Nat, z = (fun j => if j = 41 then q2 else ad j) := ⟨_, rfl⟩
    rw [← had2] at hP hD hl hag
    have e41 : lnO ln f 41 = f * 2 := rfl
    have hno : lnO ln f 41 < 2 ^ 31 := by rw [e41]; omega
    refine lv_aload_n hx hb dX3_noteOutcome_56 rfl (lv_at hl 1 rfl) ?_
    refine kr_get (C := "MonitorWays$Search") (T := TX3) (N := 11) hx hb hts hin_X3 hown hK hP 36 (by decide) (E_srch _ _ _ _) rfl 9 (by decide) lk_f22 (fun _ h9 => h9) rfl dX3_noteOutcome_57 ?_
    refine lv_iload_n hx hb dX3_noteOutcome_60 rfl (lv_at hl 0 rfl) ?_
    refine lv_aload_n hx hb dX3_noteOutcome_61 rfl (lv_at hl 1 rfl) ?_
    refine kr_get (C := "MonitorWays$Search") (T := TX3) (N := 11) hx hb hts hin_X3 hown hK hP 36 (by decide) (E_srch _ _ _ _) rfl 9 (by decide) lk_f22 (fun _ h9 => h9) rfl dX3_noteOutcome_62 ?_
    refine lv_iload_n hx hb dX3_noteOutcome_65 rfl (lv_at hl 0 rfl) ?_
    refine lv_iconst (v := 1) hx hb dX3_noteOutcome_66 (by decide) ?_
    refine lv_iadd hx hb dX3_noteOutcome_67 ?_
    refine kr_topi (y := nI (P + 1)) (nI_add P 1) ?_
    refine lv_aload_n hx hb dX3_noteOutcome_68 rfl (lv_at hl 1 rfl) ?_
    refine kr_get (C := "MonitorWays$Search") (T := TX3) (N := 11) hx hb hts hin_X3 hown hK hP 36 (by decide) (E_srch _ _ _ _) rfl 10 (by decide) lk_f47 (fun _ h9 => h9) rfl dX3_noteOutcome_69 ?_
    refine kr_topi (y := nI f) hf ?_
    refine lv_iload_n hx hb dX3_noteOutcome_72 rfl (lv_at hl 0 rfl) ?_
    refine lv_isub hx hb dX3_noteOutcome_73 ?_
    refine kr_topi (y := nI (f - P)) (pk_sub (a := f) (b := P) (by omega)) ?_
    refine kr_acopy (sp := P) (dp := P + 1) (k := f - P) (rest := []) hx hb (hml.trans hl.1.symm) hown (hts _ (tcons tw_528)) (hts _ (tcons tw_446)) (hts _ (tcons tw_445)) (hts _ (tcons tw_11)) hK hP hD hS 41 2 (by decide) (fun _ => E_outs _ _ _ _) rfl hno (by omega) (by omega) (Nat.le_of_ble_eq_true rfl) (Nat.le_of_ble_eq_true rfl) dX3_noteOutcome_74 (fun H locs hP hD hS => ?_)
    refine lv_aload_n hx hb dX3_noteOutcome_77 rfl (lv_at hl 1 rfl) ?_
    refine kr_get (C := "MonitorWays$Search") (T := TX3) (N := 11) hx hb hts hin_X3 hown hK hP 36 (by decide) (E_srch _ _ _ _) rfl 9 (by decide) lk_f22 (fun _ h9 => h9) rfl dX3_noteOutcome_78 ?_
    refine lv_iload_n hx hb dX3_noteOutcome_81 rfl (lv_at hl 0 rfl) ?_
    refine lv_lload_n hx hb dX3_noteOutcome_82 rfl (lv_at hl 2 rfl) ?_
    refine kr_lastN hx hb hK hP hD hS 41 2 (by decide) (fun _ => E_outs _ _ _ _) rfl (j := P) (by omega) hno dX3_noteOutcome_83 (fun H locs hP hD hS => ?_)
    refine lv_aload_n hx hb dX3_noteOutcome_84 rfl (lv_at hl 1 rfl) ?_
    refine lv_dup hx hb dX3_noteOutcome_85 rfl ?_
    refine kr_get (C := "MonitorWays$Search") (T := TX3) (N := 11) hx hb hts hin_X3 hown hK hP 36 (by decide) (E_srch _ _ _ _) rfl 10 (by decide) lk_f47 (fun _ h9 => h9) rfl dX3_noteOutcome_86 ?_
    refine kr_topi (y := nI f) hf ?_
    refine lv_iconst (v := 1) hx hb dX3_noteOutcome_89 (by decide) ?_
    refine lv_iadd hx hb dX3_noteOutcome_90 ?_
    refine kr_topi (y := nI (f + 1)) (nI_add f 1) ?_
    refine kr_put (C := "MonitorWays$Search") (T := TX3) (N := 11) hx hb hts hin_X3 tyX3 ok_tyX3 ok_nX3 hown hK hP hD hS 36 (by decide) (fun _ => E_srch _ _ _ _) rfl 10 (by decide) lk_f47 (fun _ h9 => h9) rfl rfl rfl rfl (fun _ => Nat.le_of_ble_eq_true rfl) (fun _ => rfl) dX3_noteOutcome_91 (fun H locs hP hD hS => ?_)
    refine W_room (cells' := 1) (slots' := f * 2) rfl (by (try dsimp only) <;> omega) ?_
    exact kr_vretX (M := M0) hx hb hr hlocks hK hP hD hS (by rw [← hPE]; rfl) hag dX3_noteOutcome_94
  · have hPlt : P < f := lt_of_nle (by omega) (by omega) c_1
    refine lv_aload_n hx hb dX3_noteOutcome_14 rfl (lv_at hl 1 rfl) ?_
    refine kr_get (C := "MonitorWays$Search") (T := TX3) (N := 11) hx hb hts hin_X3 hown hK hP 36 (by decide) (E_srch _ _ _ _) rfl 9 (by decide) lk_f22 (fun _ h9 => h9) rfl dX3_noteOutcome_15 ?_
    refine lv_iload_n hx hb dX3_noteOutcome_18 rfl (lv_at hl 0 rfl) ?_
    refine kr_laldN hx hb hK hP 41 2 (by decide) (E_outs _ _ _ _) rfl (j := P) (by omega) hno dX3_noteOutcome_19 ?_
    refine lv_lload_n hx hb dX3_noteOutcome_20 rfl (lv_at hl 2 rfl) ?_
    refine W.lcmp hx hb dX3_noteOutcome_21 ?_
    refine lv_if_ne (tgt := 26) hx hb dX3_noteOutcome_22 (by decide) (fun c_3 => ?_) (fun c_3 => ?_)
    · replace c_3 : ¬ lv 41 P = N := (fun h => c_3 ((lg_cmp_eq _ _).mpr h))
      refine lv_aload_n hx hb dX3_noteOutcome_26 rfl (lv_at hl 1 rfl) ?_
      refine kr_get (C := "MonitorWays$Search") (T := TX3) (N := 11) hx hb hts hin_X3 hown hK hP 36 (by decide) (E_srch _ _ _ _) rfl 10 (by decide) lk_f47 (fun _ h9 => h9) rfl dX3_noteOutcome_27 ?_
      refine kr_topi (y := nI f) hf ?_
      refine lv_aload_n hx hb dX3_noteOutcome_30 rfl (lv_at hl 1 rfl) ?_
      refine kr_get (C := "MonitorWays$Search") (T := TX3) (N := 11) hx hb hts hin_X3 hown hK hP 36 (by decide) (E_srch _ _ _ _) rfl 9 (by decide) lk_f22 (fun _ h9 => h9) rfl dX3_noteOutcome_31 ?_
      refine kr_alen hx hb hK hP 41 2 (by decide) (E_outs _ _ _ _) rfl rfl dX3_noteOutcome_34 ?_
      refine lv_icmp_lt (tgt := 56) hx hb dX3_noteOutcome_35 (by decide) (fun c_4 => absurd c_4 (fun h => absurd ((nI_ltI (by omega) (by omega)).mp h) (by omega))) (fun c_4 => ?_)
      refine lv_aload_n hx hb dX3_noteOutcome_38 rfl (lv_at hl 1 rfl) ?_
      refine lv_aload_n hx hb dX3_noteOutcome_39 rfl (lv_at hl 1 rfl) ?_
      refine kr_get (C := "MonitorWays$Search") (T := TX3) (N := 11) hx hb hts hin_X3 hown hK hP 36 (by decide) (E_srch _ _ _ _) rfl 9 (by decide) lk_f22 (fun _ h9 => h9) rfl dX3_noteOutcome_40 ?_
      refine lv_aload_n hx hb dX3_noteOutcome_43 rfl (lv_at hl 1 rfl) ?_
      refine kr_get (C := "MonitorWays$Search") (T := TX3) (N := 11) hx hb hts hin_X3 hown hK hP 36 (by decide) (E_srch _ _ _ _) rfl 9 (by decide) lk_f22 (fun _ h9 => h9) rfl dX3_noteOutcome_44 ?_
      refine kr_alen hx hb hK hP 41 2 (by decide) (E_outs _ _ _ _) rfl rfl dX3_noteOutcome_47 ?_
      refine lv_iconst (v := 2) hx hb dX3_noteOutcome_48 (by decide) ?_
      refine lv_imul hx hb dX3_noteOutcome_49 ?_
      refine kr_topi (y := nI ((ln 41) * 2)) (pk_mul (ln 41) 2) ?_
      rw [hfe]
      refine kr_copyOf (M := (ad, ln, iv, lv)) (cI := 41) (n0 := f) (n1 := f * 2) (f := lv 41) (rest := [.ref (ad 36)]) (by omega) (by omega) ⟨hx, hb, hml, hown, hts⟩ ⟨callB_of 2 hts (goodC (fun _ h => tcons h) tw_433) rfl rfl rfl (hts _ (tcons tw_9)) (hts _ (tcons tw_527)) (by decide +kernel) ⟨Nat.le_of_ble_eq_true rfl, Nat.le_of_ble_eq_true rfl⟩, hts _ (tcons tw_432)⟩ hK hP hD hS hA (by decide) ((E_outs ad ln (iv 41) (lv 41)).trans (by rw [hfe])) hl.1 (Nat.le_of_ble_eq_true rfl) dX3_noteOutcome_50 ⟨Nat.le_of_ble_eq_true rfl, by show 0 + f * 2 ≤ f * 2; omega⟩ (fun q2 H locs hP hD hS => ?_)
      refine kr_putA (C := "MonitorWays$Search") (T := TX3) (N := 11) hx hb hts hin_X3 tyX3 ok_tyX3 ok_nX3 hown hK hP hD hS 36 (by decide) (E_srch _ _ _ _) rfl 9 (by decide) lk_f22 (fun _ h9 => h9) rfl rfl rfl rfl (Nat.le_of_ble_eq_true rfl) ((fun j => if j = 41 then q2 else ad j), lnO ln f, iv, lvO lv f) 41 (by decide) (by decide) rfl (fun j _ h => if_neg h) rfl rfl (kE_keep (by decide) (fun j h => if_neg h) (fun j h => by first | exact if_neg h | rfl) (fun j h => by first | exact if_neg h | rfl) (fun j h => by first | exact if_neg h | rfl)) dX3_noteOutcome_53 (fun H locs hP hD hS => ?_)
      have hag : ∀ c, c < 39 → (fun j => if j = 41 then q2 else ad j) c = M0.1 c := fun c hc => (if_neg (by omega)).trans (hag c hc)
      have hl : lv_has ls 4 [(3, .int (nI P)), (0, .ref ((fun j => if j = 41 then q2 else ad j) 36)), (1, .long N)] := hl
      obtain ⟨ad, had2⟩ : ∃ z : Nat → Nat, z = (fun j => if j = 41 then q2 else ad j) := ⟨_, rfl⟩
      rw [← had2] at hP hD hl hag
      have e41 : lnO ln f 41 = f * 2 := rfl
      have hno : lnO ln f 41 < 2 ^ 31 := by rw [e41]; omega
      refine lv_aload_n hx hb dX3_noteOutcome_56 rfl (lv_at hl 1 rfl) ?_
      refine kr_get (C := "MonitorWays$Search") (T := TX3) (N := 11) hx hb hts hin_X3 hown hK hP 36 (by decide) (E_srch _ _ _ _) rfl 9 (by decide) lk_f22 (fun _ h9 => h9) rfl dX3_noteOutcome_57 ?_
      refine lv_iload_n hx hb dX3_noteOutcome_60 rfl (lv_at hl 0 rfl) ?_
      refine lv_aload_n hx hb dX3_noteOutcome_61 rfl (lv_at hl 1 rfl) ?_
      refine kr_get (C := "MonitorWays$Search") (T := TX3) (N := 11) hx hb hts hin_X3 hown hK hP 36 (by decide) (E_srch _ _ _ _) rfl 9 (by decide) lk_f22 (fun _ h9 => h9) rfl dX3_noteOutcome_62 ?_
      refine lv_iload_n hx hb dX3_noteOutcome_65 rfl (lv_at hl 0 rfl) ?_
      refine lv_iconst (v := 1) hx hb dX3_noteOutcome_66 (by decide) ?_
      refine lv_iadd hx hb dX3_noteOutcome_67 ?_
      refine kr_topi (y := nI (P + 1)) (nI_add P 1) ?_
      refine lv_aload_n hx hb dX3_noteOutcome_68 rfl (lv_at hl 1 rfl) ?_
      refine kr_get (C := "MonitorWays$Search") (T := TX3) (N := 11) hx hb hts hin_X3 hown hK hP 36 (by decide) (E_srch _ _ _ _) rfl 10 (by decide) lk_f47 (fun _ h9 => h9) rfl dX3_noteOutcome_69 ?_
      refine kr_topi (y := nI f) hf ?_
      refine lv_iload_n hx hb dX3_noteOutcome_72 rfl (lv_at hl 0 rfl) ?_
      refine lv_isub hx hb dX3_noteOutcome_73 ?_
      refine kr_topi (y := nI (f - P)) (pk_sub (a := f) (b := P) (by omega)) ?_
      refine kr_acopy (sp := P) (dp := P + 1) (k := f - P) (rest := []) hx hb (hml.trans hl.1.symm) hown (hts _ (tcons tw_528)) (hts _ (tcons tw_446)) (hts _ (tcons tw_445)) (hts _ (tcons tw_11)) hK hP hD hS 41 2 (by decide) (fun _ => E_outs _ _ _ _) rfl hno (by omega) (by omega) (Nat.le_of_ble_eq_true rfl) (Nat.le_of_ble_eq_true rfl) dX3_noteOutcome_74 (fun H locs hP hD hS => ?_)
      refine lv_aload_n hx hb dX3_noteOutcome_77 rfl (lv_at hl 1 rfl) ?_
      refine kr_get (C := "MonitorWays$Search") (T := TX3) (N := 11) hx hb hts hin_X3 hown hK hP 36 (by decide) (E_srch _ _ _ _) rfl 9 (by decide) lk_f22 (fun _ h9 => h9) rfl dX3_noteOutcome_78 ?_
      refine lv_iload_n hx hb dX3_noteOutcome_81 rfl (lv_at hl 0 rfl) ?_
      refine lv_lload_n hx hb dX3_noteOutcome_82 rfl (lv_at hl 2 rfl) ?_
      refine kr_lastN hx hb hK hP hD hS 41 2 (by decide) (fun _ => E_outs _ _ _ _) rfl (j := P) (by omega) hno dX3_noteOutcome_83 (fun H locs hP hD hS => ?_)
      refine lv_aload_n hx hb dX3_noteOutcome_84 rfl (lv_at hl 1 rfl) ?_
      refine lv_dup hx hb dX3_noteOutcome_85 rfl ?_
      refine kr_get (C := "MonitorWays$Search") (T := TX3) (N := 11) hx hb hts hin_X3 hown hK hP 36 (by decide) (E_srch _ _ _ _) rfl 10 (by decide) lk_f47 (fun _ h9 => h9) rfl dX3_noteOutcome_86 ?_
      refine kr_topi (y := nI f) hf ?_
      refine lv_iconst (v := 1) hx hb dX3_noteOutcome_89 (by decide) ?_
      refine lv_iadd hx hb dX3_noteOutcome_90 ?_
      refine kr_topi (y := nI (f + 1)) (nI_add f 1) ?_
      refine kr_put (C := "MonitorWays$Search") (T := TX3) (N := 11) hx hb hts hin_X3 tyX3 ok_tyX3 ok_nX3 hown hK hP hD hS 36 (by decide) (fun _ => E_srch _ _ _ _) rfl 10 (by decide) lk_f47 (fun _ h9 => h9) rfl rfl rfl rfl (fun _ => Nat.le_of_ble_eq_true rfl) (fun _ => rfl) dX3_noteOutcome_91 (fun H locs hP hD hS => ?_)
      refine W_room (cells' := 1) (slots' := f * 2) rfl (by (try dsimp only) <;> omega) ?_
      exact kr_vretX (M := M0) hx hb hr hlocks hK hP hD hS (by rw [← hPE]; rfl) hag dX3_noteOutcome_94
    · replace c_3 : lv 41 P = N := (lg_cmp_eq _ _).mp c_3
      exact absurd (by unfold fnd; rw [← hPE]; exact ⟨lt_of_nle (by omega) (by omega) c_1, c_3⟩) hnf
