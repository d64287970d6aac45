/-! Arrays.copyOf of longs into a longer array -/
abbrev jW0 (gc : Nat → ClassId) (a0 n0 : Nat) (f : Nat → Int64) : va_W := [(a0, .inl (gc 2, n0, .inr (.inl f)))]
abbrev jW1 (gc : Nat → ClassId) (a0 n0 : Nat) (f : Nat → Int64) (q n1 : Nat) : va_W := [(a0, .inl (gc 2, n0, .inr (.inl f))), (q, .inl (gc 2, n1, .inr (.inl (va_cpy f (fun _ => 0) 0 0 n0))))]
abbrev jRm (n1 : Nat) : Room := { frames := 1, cells := 1, slots := n1, locals := 60 }
set_option maxHeartbeats 4000000 in
set_option maxRecDepth 100000 in
theorem c_jCopy (l : Launch) (D : va_G) (gc : Nat → ClassId) (a0 n0 n1 : Nat) (f : Nat → Int64) (h01 : n0 < n1) (h1 : n1 ≤ 65536) (sz : Nat) : Met l yJA_copyOf wJA_copyOf (jRm n1) (va_Pc [.ref a0, .int (nI n1)] (fun U => U.heap.size = sz ∧ va_P D vwCl (jW0 gc a0 n0 f) U.heap ∧ va_K D vwCl (kT gc) U ∧ va_D (fun _ => True) (jW0 gc a0 n0 f))) (va_Qr (fun _ : Unit => True) (fun _ q t => va_P D vwCl (jW1 gc a0 n0 f q n1) t.heap ∧ va_K D vwCl (kT gc) t ∧ va_D (va_A (jW0 gc a0 n0 f) sz) (jW1 gc a0 n0 f q n1)) (va_A (jW0 gc a0 n0 f) sz)) 1 n1 (va_A (jW0 gc a0 n0 f) sz) := by
  refine Met.ofW (cc := cJA_copyOf) (maxL := 3) (ret := some (.array .long)) (by decide) rfl ?_
  intro p e s m args below meth c s₁ B hml hv
  obtain ⟨rfl, hsz, hP, hK, hD0⟩ := hv
  have hx := B.exec
  have hb := B.bytes
  have hr := B.returns
  have hts := atoms_spec (ws := wJA_copyOf) B.pre
  have hown : s.vm.findClass "java/util/Arrays" = some m.cls := findClass_of_methodNamed B.named
  have hlocks := B.notSynchronized
  subst hsz
  have hD := hD0.self (sz := s.heap.size)
  generalize hAe : va_A (jW0 gc a0 n0 f) s.heap.size = A at hD ⊢
  have hA : ∀ q : Nat, s.heap.size ≤ q → A q := fun q h => by rw [← hAe]; exact Or.inr h
  have hS : va_S A s.heap s.heap [] := va_S.rf
  have hl := lv_entry ([.ref a0, .int (nI n1)]) (n := 3) (Nat.le_of_ble_eq_true rfl)
  rw [lg_entry_eq]
  generalize (lg_sl ([.ref a0, .int (nI n1)]) ++ List.replicate (3 - (lg_sl ([.ref a0, .int (nI n1)])).length) Slot.unset).toArray = ls at hl ⊢
  have hl : lv_has ls 3 [(0, .ref a0), (1, .int (nI n1))] := hl
  show W p l e (jRm n1) s m _ below meth c s.heap [] 0 0 _ _
  refine lv_iload_n hx hb dJA_copyOf_0 rfl (lv_at hl 1 rfl) ?_
  refine lv_aload_n hx hb dJA_copyOf_1 rfl (lv_at hl 0 rfl) ?_
  refine va_alen (v := nI n0) hx hb hK hP 0 2 rfl rfl rfl dJA_copyOf_2 ?_
  refine lv_icmp_ne (tgt := 14) hx hb dJA_copyOf_3 (by decide) (fun c_1 => ?_) (fun c_1 => absurd ((nI_eq (by omega) (by omega)).mp c_1) (by omega))
  refine lv_iload_n hx hb dJA_copyOf_14 rfl (lv_at hl 1 rfl) ?_
  refine kr_newJ hx hb (hts _ (tcons tw_164)) hK hP hD hS hA 2 rfl h1 (Nat.le_refl 1) (Nat.le_of_eq (Nat.zero_add n1)) dJA_copyOf_15 (fun q H hP hD hS => ?_)
  have hP : va_P D vwCl [(a0, .inl (gc 2, n0, .inr (.inl f))), (q, .inl (gc 2, n1, .inr (.inl (fun _ => 0))))] H := hP
  have hD : va_D A [(a0, .inl (gc 2, n0, .inr (.inl f))), (q, .inl (gc 2, n1, .inr (.inl (fun _ => 0))))] := hD
  refine lv_astore_n (lv' := [(2, .ref q), (0, .ref a0), (1, .int (nI n1))]) hx hb dJA_copyOf_17 rfl hl (by decide) rfl (fun ls hl => ?_)
  refine lv_aload_n hx hb dJA_copyOf_18 rfl (lv_at hl 1 rfl) ?_
  refine lv_iconst (v := 0) hx hb dJA_copyOf_19 (by decide) ?_
  refine lv_aload_n hx hb dJA_copyOf_20 rfl (lv_at hl 0 rfl) ?_
  refine lv_iconst (v := 0) hx hb dJA_copyOf_21 (by decide) ?_
  refine lv_aload_n hx hb dJA_copyOf_22 rfl (lv_at hl 1 rfl) ?_
  refine va_alen (v := nI n0) hx hb hK hP 0 2 rfl rfl rfl dJA_copyOf_23 ?_
  refine lv_iload_n hx hb dJA_copyOf_24 rfl (lv_at hl 2 rfl) ?_
  refine va_mmin hx hb (hml.trans hl.1.symm) hown (hts _ (tcons tw_441)) (hts _ (tcons tw_442)) (hts _ (tcons tw_10)) (hts _ (tcons tw_443)) (Nat.le_of_ble_eq_true rfl) (Nat.le_of_ble_eq_true rfl) (Nat.le_refl 1) (Nat.le_of_eq (Nat.zero_add n1)) dJA_copyOf_25 ?_
  refine kr_topi (y := nI n0) (if_neg (fun h => absurd ((nI_ltI (by omega) (by omega)).mp h) (by omega))) ?_
  have e0 : (nI n0).toNatClampNeg = n0 := nI_clamp (by omega)
  refine va_copyl (ty := .long) hx hb (hml.trans hl.1.symm) hown (hts _ (tcons tw_444)) (hts _ (tcons tw_446)) (hts _ (tcons tw_445)) (hts _ (tcons tw_11)) hK hP hD hS 0 1 2 2 rfl rfl rfl rfl rfl (by decide) (by decide) (nI_pos (by omega)) (by show 0 + (nI n0).toNatClampNeg ≤ n0; omega) (by show 0 + (nI n0).toNatClampNeg ≤ n1; omega) (fun _ _ => rfl) (Nat.le_of_ble_eq_true rfl) (Nat.le_of_ble_eq_true rfl) dJA_copyOf_28 (fun H locs hP hD hS => ?_)
  have hP : va_P D vwCl (jW1 gc a0 n0 f q n1) H := by
    have h9 : va_P D vwCl [(a0, .inl (gc 2, n0, .inr (.inl f))), (q, .inl (gc 2, n1, .inr (.inl (va_cpy f (fun _ => 0) 0 0 (nI n0).toNatClampNeg))))] H := hP
    rw [e0] at h9
    exact h9
  have hD : va_D A (jW1 gc a0 n0 f q n1) := by
    have h9 : va_D A [(a0, .inl (gc 2, n0, .inr (.inl f))), (q, .inl (gc 2, n1, .inr (.inl (va_cpy f (fun _ => 0) 0 0 (nI n0).toNatClampNeg))))] := hD
    rw [e0] at h9
    exact h9
  refine lv_aload_n hx hb dJA_copyOf_31 rfl (lv_at hl 0 rfl) ?_
  refine W_room (cells' := 1) (slots' := n1) rfl (Nat.zero_add n1) ?_
  exact W.aret hx hb hr (Or.inr ⟨_, rfl⟩) (Or.inr ⟨_, rfl⟩) (fun t ht hW => ⟨⟨(), q, rfl, trivial, by rw [ht]; exact hP, va_K.moved hW.alike hK, hD⟩, hS.F ht⟩) hS.2.2 dJA_copyOf_32
set_option maxHeartbeats 4000000 in
/-- the call of copyOf from a system of cells: its cell cI is copied into a new one -/
theorem kr_copyOf {p : Program} {l : Launch} {e : Env} {R : Room} {s : State} {m : MethodId} {args : Array Value} {below : List Frame} {meth : Method} {c : Code} {H : Heap} {locs : List Loc} {cells slots : Nat} {Q : State → Prop} {pc : Nat} {ls : Array Slot} {rest : List Value} {A : Nat → Prop} {H0 : Heap} {D : va_G} {gc : Nat → ClassId} {cc : ByteArray} {n : Nat} {E : KE} {nL index : Nat} {Ts : List Cond} {own : String} {M : KM} {cI n0 n1 : Nat} {f : Nat → Int64} (h01 : n0 < n1) (h1 : n1 ≤ 65536)
    (S : CallFix p m c cc nL s args Ts own) (cw : CallB R s args own index yJA_copyOf cJA_copyOf 3 (some (.array .long)) wJA_copyOf (jRm n1) 1 n1 2 ∧ (Cond.static yJA_copyOf).before args s = true) (hK : va_K D vwCl (kT gc) s) (hP : va_P D vwCl (mW n E M) H) (hD : va_D A (mW n E M)) (hS : va_S A H0 H locs) (hA : ∀ q, H0.size ≤ q → A q) (hc : cI < n) (hE : E M.1 M.2.1 (M.2.2.1 cI) (M.2.2.2 cI) cI = .inl (gc 2, n0, .inr (.inl f))) (hsize : ls.size = nL) (hW : (rest.map fun v => v.category).sum ≤ 8) (hdg : decode cc pc = .ok (.invokestatic index, 3)) (hf : cells + 1 ≤ R.cells ∧ slots + n1 ≤ R.slots)
    (kk : ∀ (q : Nat) (H1 : Heap) (locs1 : List Loc), va_P D vwCl (mW n E M ++ [(q, .inl (gc 2, n1, .inr (.inl (va_cpy f (fun _ => 0) 0 0 n0))))]) H1 → va_D A (mW n E M ++ [(q, .inl (gc 2, n1, .inr (.inl (va_cpy f (fun _ => 0) 0 0 n0))))]) → va_S A H0 H1 locs1 → W p l e R s m args below meth c H1 locs1 (cells + 1) (slots + n1) Q (F0 m (pc + 3) ls (.ref q :: rest))) : W p l e R s m args below meth c H locs cells slots Q (F0 m pc ls (.int (nI n1) :: .ref (M.1 cI) :: rest)) := by
  have hat : va_at D vwCl (M.1 cI, .inl (gc 2, n0, .inr (.inl f))) H := by
    have h9 := hP cI _ (mW_get hc)
    rw [hE] at h9
    exact h9
  have hone : ∀ {W0 : Nat × va_E} {k : Nat} {x : Nat × va_E}, [W0][k]? = some x → k = 0 ∧ x = W0 := by
    intro W0 k x h
    match k, h with
    | 0, h => exact ⟨rfl, (Option.some.inj h).symm⟩
    | k + 1, h => simp at h
  have hPc : va_P D vwCl (jW0 gc (M.1 cI) n0 f) H := fun k x hx => by
    obtain ⟨-, rfl⟩ := hone hx
    exact hat
  have hDc : va_D (fun _ => True) (jW0 gc (M.1 cI) n0 f) := ⟨fun i j a b hi hj _ => by rw [(hone hi).1, (hone hj).1], fun _ _ _ => trivial⟩
  have hAc : A (M.1 cI) := hD.2 cI _ (mW_get hc)
  have hF : ∀ q, va_A (jW0 gc (M.1 cI) n0 f) H.size q → A q := by
    intro q h
    rcases h with ⟨k, e, h⟩ | h
    · have := (hone h).2
      have h2 : q = M.1 cI := congrArg Prod.fst this
      rw [h2]; exact hAc
    · exact hA q (Nat.le_trans hS.1 h)
  refine va_callr (va_runS (As := [.ref (M.1 cI), .int (nI n1)]) (rest := rest) S (c_jCopy l D gc (M.1 cI) n0 n1 f h01 h1 H.size) cw ⟨fun a U g mk q => by obtain ⟨q0, q1, qP, qK, qD⟩ := q; exact ⟨q0, q1, qP, va_K.moved (u := U) (U := U.calling g mk a) (Vm.Alike.refl U.vm) qK, qD⟩, fun U hU hW => ⟨rfl, by rw [hU], by rw [hU]; exact hPc, va_K.moved hW.alike hK, hDc⟩⟩ rfl rfl hsize rfl (lv_room hW) hdg hf) hS (fun q _ h => hF q h) hF (fun u q t H1 locs1 ht hvm hw hB hz1 hk1 hS1 => ?_)
  obtain ⟨hP1, hK1, hD1⟩ := hB
  rw [ht] at hP1
  have hlt : ∀ j, j < n → M.1 j < H.size := fun j hj => (hP j _ (mW_get hj)).lt
  have hqn : ¬ M.1 cI = q := fun h => absurd (hD1.1 0 1 _ _ rfl rfl h) (by decide)
  have hq : H.size ≤ q := by
    rcases hD1.2 1 _ rfl with ⟨k, e, h⟩ | h
    · exact absurd (congrArg Prod.fst (hone h).2).symm hqn
    · exact h
  have hAq : A q := hA q (Nat.le_trans hS.1 hq)
  have hkeep : ∀ j, j < n → j ≠ cI → H1[M.1 j]? = H[M.1 j]? := by
    intro j hj hne
    refine hk1 _ (hlt j hj) (fun h => ?_)
    rcases h with ⟨k, e, h⟩ | h
    · have h2 : M.1 j = M.1 cI := congrArg Prod.fst (hone h).2
      exact hne (hD.1 j cI _ _ (mW_get hj) (mW_get hc) h2)
    · have := hlt j hj; omega
  refine kk q H1 locs1 (va_P.app (fun j x hx => ?_) (fun k x hx => ?_)) (va_D.app hD ⟨fun i j a b hi hj _ => by rw [(hone hi).1, (hone hj).1], fun k x hx => by rw [(hone hx).2]; exact hAq⟩ (fun i j a b hi hj => ?_)) hS1
  · by_cases hj : j < n
    · by_cases hjc : j = cI
      · subst hjc
        rw [mW_get hj] at hx
        cases hx
        rw [hE]
        exact hP1 0 _ rfl
      · have h9 := hx
        rw [mW_get hj] at h9
        cases h9
        exact (hP j _ hx).kept (hkeep j hj hjc)
    · rw [mW_out hj] at hx; cases hx
  · rw [(hone hx).2]; exact hP1 1 _ rfl
  · rw [(hone hj).2]
    have hin : i < n := by
      rcases Nat.lt_or_ge i n with h | h
      · exact h
      · rw [mW_out (by omega)] at hi; cases hi
    rw [mW_get hin] at hi
    cases hi
    have := hlt i hin
    show M.1 i ≠ q
    omega
