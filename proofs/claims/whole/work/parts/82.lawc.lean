theorem law_and (v : Int32) : ∃ k, k < 16 ∧ v &&& 15 = nI k := by
  have h : v = nI v.toBitVec.toNat := by
    apply Int32.toBitVec_inj.1
    show v.toBitVec = BitVec.ofNat 32 v.toBitVec.toNat
    simp
  refine ⟨v.toBitVec.toNat % 16, Nat.mod_lt _ (by decide), ?_⟩
  rw [h, show (15 : Int32) = nI 15 from rfl, iA, show (15 : Nat) = 2 ^ 4 - 1 from rfl, modAnd, ← h]
set_option maxHeartbeats 4000000 in
set_option maxRecDepth 100000 in
theorem law_loop {p : Program} {l : Launch} {e : Env} {s : State} {m : MethodId} {below : List Frame} {meth : Method} {c : Code} {D : va_G} {gc : Nat → ClassId} {b L : Nat} {xs : Nat → Int32} (hL : L ≤ 2049) (C0 : lw_At p s m meth c b L xs) (hK : va_K D vwCl (kT gc) s) {adR lnR : Nat → Nat} : ∀ (n i : Nat), 1 ≤ i → i ≤ L + 4 → L + 5 ≤ i + n → ∀ (ln : Nat → Nat) (iv : Nat → Nat → Int32) (lv : Nat → Nat → Int64) (jv : Nat → Nat → Int32) (kv : Nat → Nat → Int64) (adC : Nat → Nat) (H : Heap) (locs : List Loc) (cells slots : Nat), lawJ ln iv lv jv kv → lawP cells slots ln → va_P D vwCl (mW 42 (kE gc) (adC, ln, iv, lv) ++ mW 20 (rE gc) (adR, lnR, jv, kv)) H → va_D (fun q : Nat => s.heap.size ≤ q) (mW 42 (kE gc) (adC, ln, iv, lv) ++ mW 20 (rE gc) (adR, lnR, jv, kv)) → va_S (fun q : Nat => s.heap.size ≤ q) s.heap H locs → ∀ (ls : Array Slot), lv_has ls 4 [(0, .ref b), (1, .ref (adC 0)), (2, .ref (adR 0)), (3, .int (nI i))] → W p l e room_1 s m #[Value.ref b] below meth c H locs cells slots (lw_Z below #[Value.ref b] s) (F0 m 28 ls []) := by
  obtain ⟨hx, hb, hr, hml, hown, hts, hX, hbl, hlocks, hgv⟩ := id C0
  have hbA : ¬ (fun q : Nat => s.heap.size ≤ q) b := Nat.not_le.mpr hbl
  intro n
  induction n with
  | zero =>
    intro i h1 h2 h3
    exact absurd h3 (by omega)
  | succ n ih =>
    intro i h1 h2 h3 ln iv lv jv kv adC H locs cells slots hJ hR hP hD hS ls hl
    have htop := cA_top hR.2.2.1 hR.2.2.2
    have hc1 : cells ≤ 600000 := by have := hR.1; omega
    have hc2 : slots ≤ 7302250 := by have := hR.2.1; omega
    refine lv_iload_n hx hb dL_law_28 rfl (lv_at hl 3 rfl) ?_
    refine lv_aload_n hx hb dL_law_29 rfl (lv_at hl 0 rfl) ?_
    refine va_slen hx hb hX hbl hbA hS dL_law_30 ?_
    refine lv_iconst (v := 4) hx hb dL_law_31 (by decide) ?_
    refine lv_isub hx hb dL_law_32 ?_
    refine lv_icmp_gt (tgt := 454) hx hb dL_law_33 (by decide) (fun c1 => ?_) (fun c1 => ?_)
    · refine lv_iconst (v := 1) hx hb dL_law_454 (by decide) ?_
      refine va_forget (fun q hq => hS.2.2 q hq) ?_
      refine W.widen (k := 600000) (n := 7302250) hc1 hc2 ?_
      exact lw_ret hx hb hr hlocks dL_law_455
    · have hi4 : i + 4 ≤ L := law_end (by omega) hL c1
      have kk : lawK p l e s m b below meth c D gc adR lnR (adC 0) ls := fun ln1 iv1 lv1 jv1 kv1 adC1 H1 locs1 cells1 slots1 hJ1 hR1 h0 hP1 hD1 hS1 => by
        refine lv_iinc (v := nI (i + 4)) (lv' := [(3, .int (nI (i + 4))), (0, .ref b), (1, .ref (adC 0)), (2, .ref (adR 0))]) hx hb dL_law_448 hl (k := 3) rfl (law_t4 i) (by decide) rfl (fun ls hl => ?_)
        refine lv_goto (tgt := 28) hx hb dL_law_451 (by decide) ?_
        have hl2 : lv_has ls 4 [(0, .ref b), (1, .ref (adC 0)), (2, .ref (adR 0)), (3, .int (nI (i + 4)))] := lv_sub hl [1, 2, 3, 0] rfl
        rw [← h0] at hl2
        exact ih (i + 4) (by omega) (by omega) (by omega) ln1 iv1 lv1 jv1 kv1 adC1 H1 locs1 cells1 slots1 hJ1 hR1 hP1 hD1 hS1 ls hl2
      refine lv_aload_n hx hb dL_law_36 rfl (lv_at hl 0 rfl) ?_
      refine lv_iload_n hx hb dL_law_37 rfl (lv_at hl 3 rfl) ?_
      refine va_sld hx hb hX hbl hbA hS (vin (n := i) (N := L) (by omega) (by omega)) dL_law_38 ?_
      refine lv_bipush (v := 15) hx hb dL_law_39 (by decide) ?_
      refine lv_iand hx hb dL_law_41 ?_
      obtain ⟨k, hk, ek⟩ := law_and (xs (nI i).toNatClampNeg)
      refine kr_topi ek ?_
      have hk16 : k = 0 ∨ k = 1 ∨ k = 2 ∨ k = 3 ∨ k = 4 ∨ k = 5 ∨ k = 6 ∨ k = 7 ∨ k = 8 ∨ k = 9 ∨ k = 10 ∨ k = 11 ∨ k = 12 ∨ 13 ≤ k := by omega
      rcases hk16 with q | q | q | q | q | q | q | q | q | q | q | q | q | q
      · subst q
        refine lv_tableIn (tgt := 108) (off := 66) hx hb dL_law_42 (by decide) (by decide) (by decide) (by decide) ?_
        exact law_c0 hL C0 hK hi4 hJ hR hP hD hS hl kk
      · subst q
        refine lv_tableIn (tgt := 151) (off := 109) hx hb dL_law_42 (by decide) (by decide) (by decide) (by decide) ?_
        exact law_c1 hL C0 hK hi4 hJ hR hP hD hS hl kk
      · subst q
        refine lv_tableIn (tgt := 184) (off := 142) hx hb dL_law_42 (by decide) (by decide) (by decide) (by decide) ?_
        exact law_c2 hL C0 hK hi4 hJ hR hP hD hS hl kk
      · subst q
        refine lv_tableIn (tgt := 217) (off := 175) hx hb dL_law_42 (by decide) (by decide) (by decide) (by decide) ?_
        exact law_c3 hL C0 hK hi4 hJ hR hP hD hS hl kk
      · subst q
        refine lv_tableIn (tgt := 230) (off := 188) hx hb dL_law_42 (by decide) (by decide) (by decide) (by decide) ?_
        exact law_c4 hL C0 hK hi4 hJ hR hP hD hS hl kk
      · subst q
        refine lv_tableIn (tgt := 253) (off := 211) hx hb dL_law_42 (by decide) (by decide) (by decide) (by decide) ?_
        exact law_c5 hL C0 hK hi4 hJ hR hP hD hS hl kk
      · subst q
        refine lv_tableIn (tgt := 286) (off := 244) hx hb dL_law_42 (by decide) (by decide) (by decide) (by decide) ?_
        exact law_c6 hL C0 hK hi4 hJ hR hP hD hS hl kk
      · subst q
        refine lv_tableIn (tgt := 309) (off := 267) hx hb dL_law_42 (by decide) (by decide) (by decide) (by decide) ?_
        exact law_c7 hL C0 hK hi4 hJ hR hP hD hS hl kk
      · subst q
        refine lv_tableIn (tgt := 332) (off := 290) hx hb dL_law_42 (by decide) (by decide) (by decide) (by decide) ?_
        exact law_c8 hL C0 hK hi4 hJ hR hP hD hS hl kk
      · subst q
        refine lv_tableIn (tgt := 365) (off := 323) hx hb dL_law_42 (by decide) (by decide) (by decide) (by decide) ?_
        exact law_c9 hL C0 hK hi4 hJ hR hP hD hS hl kk
      · subst q
        refine lv_tableIn (tgt := 378) (off := 336) hx hb dL_law_42 (by decide) (by decide) (by decide) (by decide) ?_
        exact law_c10 hL C0 hK hi4 hJ hR hP hD hS hl kk
      · subst q
        refine lv_tableIn (tgt := 402) (off := 360) hx hb dL_law_42 (by decide) (by decide) (by decide) (by decide) ?_
        exact law_c11 hL C0 hK hi4 hJ hR hP hD hS hl kk
      · subst q
        refine lv_tableIn (tgt := 425) (off := 383) hx hb dL_law_42 (by decide) (by decide) (by decide) (by decide) ?_
        exact law_c12 hL C0 hK hi4 hJ hR hP hD hS hl kk
      · have hk3 : k = 13 ∨ k = 14 ∨ k = 15 := by omega
        refine lv_tableOut (tgt := 448) hx hb dL_law_42 (Or.inr (by rcases hk3 with h | h | h <;> subst h <;> decide)) (by decide) ?_
        exact kk ln iv lv jv kv adC H locs cells slots hJ hR rfl hP hD hS
