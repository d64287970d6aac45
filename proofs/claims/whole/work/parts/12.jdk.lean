abbrev yJA_fill : MethodName := { cls := "java/util/Arrays", name := "fill", desc := "([II)V" }
abbrev cJA_fill : ByteArray := prog_13_method_103_code
abbrev wJA_fill : List Cond := Cond.code yJA_fill cJA_fill 4 none :: wtbl
theorem dJA_fill_0 : decode cJA_fill 0 = .ok (.iconst 0, 1) := by decide +kernel
theorem dJA_fill_1 : decode cJA_fill 1 = .ok (.istore_n 2, 1) := by decide +kernel
theorem dJA_fill_2 : decode cJA_fill 2 = .ok (.aload_n 0, 1) := by decide +kernel
theorem dJA_fill_3 : decode cJA_fill 3 = .ok (.arraylength, 1) := by decide +kernel
theorem dJA_fill_4 : decode cJA_fill 4 = .ok (.istore_n 3, 1) := by decide +kernel
theorem dJA_fill_5 : decode cJA_fill 5 = .ok (.iload_n 2, 1) := by decide +kernel
theorem dJA_fill_6 : decode cJA_fill 6 = .ok (.iload_n 3, 1) := by decide +kernel
theorem dJA_fill_7 : decode cJA_fill 7 = .ok (.if_icmp .ge 13, 3) := by decide +kernel
theorem dJA_fill_10 : decode cJA_fill 10 = .ok (.aload_n 0, 1) := by decide +kernel
theorem dJA_fill_11 : decode cJA_fill 11 = .ok (.iload_n 2, 1) := by decide +kernel
theorem dJA_fill_12 : decode cJA_fill 12 = .ok (.iload_n 1, 1) := by decide +kernel
theorem dJA_fill_13 : decode cJA_fill 13 = .ok (.iastore, 1) := by decide +kernel
theorem dJA_fill_14 : decode cJA_fill 14 = .ok (.iinc 2 1, 3) := by decide +kernel
theorem dJA_fill_17 : decode cJA_fill 17 = .ok (.goto (-12), 3) := by decide +kernel
theorem dJA_fill_20 : decode cJA_fill 20 = .ok (.return_, 1) := by decide +kernel
abbrev yJA_copyOf : MethodName := { cls := "java/util/Arrays", name := "copyOf", desc := "([JI)[J" }
abbrev cJA_copyOf : ByteArray := prog_13_method_124_code
abbrev wJA_copyOf : List Cond := Cond.code yJA_copyOf cJA_copyOf 3 (some ((.array .long))) :: wtbl
theorem dJA_copyOf_0 : decode cJA_copyOf 0 = .ok (.iload_n 1, 1) := by decide +kernel
theorem dJA_copyOf_1 : decode cJA_copyOf 1 = .ok (.aload_n 0, 1) := by decide +kernel
theorem dJA_copyOf_2 : decode cJA_copyOf 2 = .ok (.arraylength, 1) := by decide +kernel
theorem dJA_copyOf_3 : decode cJA_copyOf 3 = .ok (.if_icmp .ne 11, 3) := by decide +kernel
theorem dJA_copyOf_6 : decode cJA_copyOf 6 = .ok (.aload_n 0, 1) := by decide +kernel
theorem dJA_copyOf_7 : decode cJA_copyOf 7 = .ok (.invokevirtual 319, 3) := by decide +kernel
theorem dJA_copyOf_10 : decode cJA_copyOf 10 = .ok (.checkcast 320, 3) := by decide +kernel
theorem dJA_copyOf_13 : decode cJA_copyOf 13 = .ok (.areturn, 1) := by decide +kernel
theorem dJA_copyOf_14 : decode cJA_copyOf 14 = .ok (.iload_n 1, 1) := by decide +kernel
theorem dJA_copyOf_15 : decode cJA_copyOf 15 = .ok (.newarray .long, 2) := by decide +kernel
theorem dJA_copyOf_17 : decode cJA_copyOf 17 = .ok (.astore_n 2, 1) := by decide +kernel
theorem dJA_copyOf_18 : decode cJA_copyOf 18 = .ok (.aload_n 0, 1) := by decide +kernel
theorem dJA_copyOf_19 : decode cJA_copyOf 19 = .ok (.iconst 0, 1) := by decide +kernel
theorem dJA_copyOf_20 : decode cJA_copyOf 20 = .ok (.aload_n 2, 1) := by decide +kernel
theorem dJA_copyOf_21 : decode cJA_copyOf 21 = .ok (.iconst 0, 1) := by decide +kernel
theorem dJA_copyOf_22 : decode cJA_copyOf 22 = .ok (.aload_n 0, 1) := by decide +kernel
theorem dJA_copyOf_23 : decode cJA_copyOf 23 = .ok (.arraylength, 1) := by decide +kernel
theorem dJA_copyOf_24 : decode cJA_copyOf 24 = .ok (.iload_n 1, 1) := by decide +kernel
theorem dJA_copyOf_25 : decode cJA_copyOf 25 = .ok (.invokestatic 304, 3) := by decide +kernel
theorem dJA_copyOf_28 : decode cJA_copyOf 28 = .ok (.invokestatic 150, 3) := by decide +kernel
theorem dJA_copyOf_31 : decode cJA_copyOf 31 = .ok (.aload_n 2, 1) := by decide +kernel
theorem dJA_copyOf_32 : decode cJA_copyOf 32 = .ok (.areturn, 1) := by decide +kernel
section KSv
variable {p : Program} {l : Launch} {e : Env} {R : Room} {s : State} {m : MethodId} {args : Array Value} {below : List Frame} {meth : Method} {c : Code} {H : Heap} {locs : List Loc} {cells slots : Nat} {Q : State → Prop}
variable {pc : Nat} {ls : Array Slot} {rest st0 : List Value} {A : Nat → Prop} {H0 : Heap} {D : va_G} {cl : List vw_C} {tys : List (ClassId × FieldType)} {cc : ByteArray} {n : Nat} {E : KE}
variable {y : MethodName} {bytes : ByteArray} {maxL nL nn index : Nat} {ret : Option FieldType} {ws : List Cond} {rm : Room} {Ts : List Cond} {own : String} {As : List Value} {M M' : KM}
theorem kr_callSv (S : CallFix p m c cc nL s args Ts own) (hM : kMv l y ws rm D cl tys n E As M M') (cw : CallB R s args own index y bytes maxL ret ws rm rm.cells rm.slots nn ∧ (Cond.static y).before args s = true) (hK : va_K D cl tys s) (hP : va_P D cl (mW n E M) H) (hD : va_D A (mW n E M)) (hS : va_S A H0 H locs) (hA : ∀ q, H0.size ≤ q → A q) (hn : As.length = nn) (hsize : ls.size = nL) (hst : st0 = As.reverse ++ rest) (hW : (rest.map fun v => v.category).sum ≤ 8) (hdg : decode cc pc = .ok (.invokestatic index, 3)) (hf : cells + rm.cells ≤ R.cells ∧ slots + rm.slots ≤ R.slots)
    (kk : ∀ (H1 : Heap) (locs1 : List Loc), va_P D cl (mW n E M') H1 → va_D A (mW n E M') → va_S A H0 H1 locs1 → W p l e R s m args below meth c H1 locs1 (cells + rm.cells) (slots + rm.slots) Q (F0 m (pc + 3) ls rest)) : W p l e R s m args below meth c H locs cells slots Q (F0 m pc ls st0) := by
  have hF := kFree hD hS hA
  refine va_callv (va_runS (As := As) (rest := rest) S (hM H.size) cw (kr_pre hK hP hD) rfl hn hsize hst (lv_room hW) hdg hf) hS (fun q _ h => hF q h) hF (fun u t H1 locs1 ht hvm hw hB hz1 hk1 hS1 => ?_)
  obtain ⟨hP1, hK1, hD1⟩ := hB
  subst hw
  rw [ht] at hP1
  exact kk H1 locs1 hP1 (hD1.weaken (fun k q _ h => hF q.1 h)) hS1
end KSv
/-- Arrays.fill -/
def fillI (iv : Nat → Nat → Int32) (c : Nat) (x : Int32) : Nat → Nat → Nat → Int32
  | 0 => iv
  | k + 1 => up2 (fillI iv c x k) c k x
set_option maxHeartbeats 4000000 in
set_option maxRecDepth 100000 in
theorem c_jFill (l : Launch) (D : va_G) (gc : Nat → ClassId) (ad ln : Nat → Nat) (iv : Nat → Nat → Int32) (lv : Nat → Nat → Int64) (x : Int32) (hns : ln 40 < 2 ^ 31) : kMv l yJA_fill wJA_fill ({ frames := 0, cells := 0, slots := 0, locals := 0 }) D vwCl (kT gc) 42 (kE gc) [.ref (ad 40), .int x] (ad, ln, iv, lv) (ad, ln, fillI iv 40 x (ln 40), lv) := by
  refine kv_start (cc := cJA_fill) (maxL := 4) (by decide) rfl (Nat.le_of_ble_eq_true rfl) ?_
  intro p9 e9 s m9 below meth c9 A ls hx hb hr hts hown hlocks hml hA hK hP hD hS hl
  have hl : lv_has ls 4 [(0, .ref (ad 40)), (1, .int x)] := hl
  have hown : s.vm.findClass "java/util/Arrays" = some m9.cls := hown
  refine lv_iconst (v := 0) hx hb dJA_fill_0 (by decide) ?_
  refine lv_istore_n (lv' := [(2, .int 0), (0, .ref (ad 40)), (1, .int x)]) hx hb dJA_fill_1 rfl hl (by decide) rfl (fun ls hl => ?_)
  refine lv_aload_n hx hb dJA_fill_2 rfl (lv_at hl 1 rfl) ?_
  refine kr_alen hx hb hK hP 40 0 (by decide) (E_slots _ _ _ _) rfl rfl dJA_fill_3 ?_
  refine lv_istore_n (lv' := [(3, .int (nI (ln 40))), (2, .int 0), (0, .ref (ad 40)), (1, .int x)]) hx hb dJA_fill_4 rfl hl (by decide) rfl (fun ls hl => ?_)
  refine kr_loop (σ := Nat) (fun z9 => match z9 with | i => ln 40 - i) (fun z9 H locs ls => match z9 with | i => (i ≤ ln 40) ∧ va_P D vwCl (mW 42 (kE gc) (ad, ln, (fillI iv 40 x i), lv)) H ∧ va_D A (mW 42 (kE gc) (ad, ln, (fillI iv 40 x i), lv)) ∧ va_S A s.heap H locs ∧ lv_has ls 4 [(0, .ref (ad 40)), (1, .int x), (2, .int (nI i)), (3, .int (nI (ln 40)))]) 5 (0) ⟨Nat.zero_le _, hP, hD, hS, lv_sub hl [2, 3, 1, 0] rfl⟩ ?_
  intro z9 H locs ls hI ih
  obtain ⟨i, hx9⟩ : ∃ z, z = z9 := ⟨_, rfl⟩
  subst hx9
  obtain ⟨hi, hP, hD, hS, hl⟩ := hI
  refine lv_iload_n hx hb dJA_fill_5 rfl (lv_at hl 2 rfl) ?_
  refine lv_iload_n hx hb dJA_fill_6 rfl (lv_at hl 3 rfl) ?_
  refine lv_icmp_ge (tgt := 20) hx hb dJA_fill_7 (by decide) (fun c_1 => ?_) (fun c_1 => ?_)
  · have hie : ln 40 = i := by have := (nI_leI (by omega) (by omega)).mp c_1; omega
    subst hie
    exact kr_vret hx hb hr hlocks hK hP hD hS rfl dJA_fill_20
  · have hlt : i < ln 40 := lt_of_nle (by omega) (by omega) c_1
    refine lv_aload_n hx hb dJA_fill_10 rfl (lv_at hl 0 rfl) ?_
    refine lv_iload_n hx hb dJA_fill_11 rfl (lv_at hl 2 rfl) ?_
    refine lv_iload_n hx hb dJA_fill_12 rfl (lv_at hl 1 rfl) ?_
    refine kr_iastN hx hb hK hP hD hS 40 0 (by decide) (fun _ => E_slots _ _ _ _) rfl (j := i) (by omega) hns dJA_fill_13 (fun H locs hP hD hS => ?_)
    refine lv_iinc (v := nI (i + 1)) (lv' := [(2, .int (nI (i + 1))), (0, .ref (ad 40)), (1, .int x), (3, .int (nI (ln 40)))]) hx hb dJA_fill_14 hl (k := 2) rfl (nI_1 i) (by decide) rfl (fun ls hl => ?_)
    refine lv_goto (tgt := 5) hx hb dJA_fill_17 (by decide) ?_
    exact ih (i + 1) H locs ls ⟨by omega, hP, hD, hS, lv_sub hl [1, 2, 0, 3] rfl⟩ (by show ln 40 - (i + 1) < ln 40 - i; omega)
