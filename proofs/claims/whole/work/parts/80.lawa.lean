theorem lwt {w : Cond} (h : w ∈ wtbl) : w ∈ lw_tbl := (List.mem_filter.1 h).1
theorem mW_len {n : Nat} {E : KE} {M : KM} : (mW n E M).length = n := by unfold mW; rw [List.length_map, List.length_range]
theorem idx_l (u v : va_W) {n : Nat} (h : u.length = n) : (List.range n).map (fun i => (u ++ v)[i]?) = u.map some := by
  subst h
  apply List.ext_getElem?
  intro k
  rw [List.getElem?_map, List.getElem?_map]
  by_cases q : k < u.length
  · rw [List.getElem?_range q, Option.map_some, List.getElem?_append_left q, List.getElem?_eq_getElem q, Option.map_some]
  · rw [List.getElem?_eq_none (by rw [List.length_range]; omega), List.getElem?_eq_none (by omega), Option.map_none, Option.map_none]
theorem idx_r (u v : va_W) {n k : Nat} (h : u.length = n) (h2 : v.length = k) : ((List.range k).map (fun i => n + i)).map (fun i => (u ++ v)[i]?) = v.map some := by
  subst h h2
  apply List.ext_getElem?
  intro j
  rw [List.getElem?_map, List.getElem?_map, List.getElem?_map]
  by_cases q : j < v.length
  · rw [List.getElem?_range q, Option.map_some, Option.map_some, List.getElem?_append_right (by omega), Nat.add_sub_cancel_left, List.getElem?_eq_getElem q, Option.map_some]
  · rw [List.getElem?_eq_none (by rw [List.length_range]; omega), List.getElem?_eq_none (by omega), Option.map_none, Option.map_none, Option.map_none]
theorem idx_d {n k : Nat} : ∀ i ∈ (List.range k).map (fun i => n + i), i ∉ List.range n := by
  intro i hi hc
  obtain ⟨j, _, rfl⟩ := List.mem_map.1 hi
  have := List.mem_range.1 hc
  omega
section LWJ
variable {p : Program} {l : Launch} {e : Env} {R : Room} {s : State} {m : MethodId} {args : Array Value} {below : List Frame} {meth : Method} {c : Code} {H : Heap} {locs : List Loc} {cells slots : Nat} {Q : State → Prop}
variable {pc : Nat} {ls : Array Slot} {rest st0 : List Value} {A : Nat → Prop} {H0 : Heap} {D : va_G} {cl : List vw_C} {tys : List (ClassId × FieldType)} {cc : ByteArray} {n k : Nat} {E F : KE}
variable {y : MethodName} {bytes : ByteArray} {maxL nL nn index : Nat} {ret : Option FieldType} {ws : List Cond} {rm : Room} {Ts : List Cond} {own C : String} {b : Nat} {As : List Value} {M M' N : KM} {M2 : KM2}
theorem law_Vi {rv : Int32} (S : CallFix p m c cc nL s args Ts own) (hM : kMi l y ws rm D cl tys n E (.ref b :: As) M M' rv) (cw : CallW R s args own C index y bytes maxL ret ws rm rm.cells rm.slots nn) (hrv : ∃ cell : Cell, H[b]? = some cell ∧ cell.vm.isStatics = false ∧ s.vm.findClass C = some cell.cls) (hK : va_K D cl tys s) (hP : va_P D cl (mW n E M ++ mW k F N) H) (hD : va_D A (mW n E M ++ mW k F N)) (hS : va_S A H0 H locs) (hA : ∀ q, H0.size ≤ q → A q) (hnC : va_nd (List.range n) = true) (hnR : va_nd ((List.range k).map (fun i => n + i)) = true) (hn : As.length = nn) (hsize : ls.size = nL) (hst : st0 = As.reverse ++ .ref b :: rest) (hW : (rest.map fun v => v.category).sum ≤ 8) (hdg : decode cc pc = .ok (.invokevirtual index, 3)) (hf : cells + rm.cells ≤ R.cells ∧ slots + rm.slots ≤ R.slots)
    (kk : ∀ (H1 : Heap) (locs1 : List Loc), va_P D cl (mW k F N ++ mW n E M') H1 → va_D A (mW k F N ++ mW n E M') → va_S A H0 H1 locs1 → W p l e R s m args below meth c H1 locs1 (cells + rm.cells) (slots + rm.slots) Q (F0 m (pc + 3) ls (.int rv :: rest))) : W p l e R s m args below meth c H locs cells slots Q (F0 m pc ls st0) :=
  kr_joinVi (wr := mW k F N) S hM cw hrv hK hP hD hS hA (List.range n) ((List.range k).map (fun i => n + i)) (idx_l _ _ mW_len) (idx_r _ _ mW_len mW_len) hnC hnR idx_d hn hsize hst hW hdg hf kk
theorem law_Vl {rv : Int64} (S : CallFix p m c cc nL s args Ts own) (hM : kMl l y ws rm D cl tys n E (.ref b :: As) M M' rv) (cw : CallW R s args own C index y bytes maxL ret ws rm rm.cells rm.slots nn) (hrv : ∃ cell : Cell, H[b]? = some cell ∧ cell.vm.isStatics = false ∧ s.vm.findClass C = some cell.cls) (hK : va_K D cl tys s) (hP : va_P D cl (mW n E M ++ mW k F N) H) (hD : va_D A (mW n E M ++ mW k F N)) (hS : va_S A H0 H locs) (hA : ∀ q, H0.size ≤ q → A q) (hnC : va_nd (List.range n) = true) (hnR : va_nd ((List.range k).map (fun i => n + i)) = true) (hn : As.length = nn) (hsize : ls.size = nL) (hst : st0 = As.reverse ++ .ref b :: rest) (hW : (rest.map fun v => v.category).sum ≤ 8) (hdg : decode cc pc = .ok (.invokevirtual index, 3)) (hf : cells + rm.cells ≤ R.cells ∧ slots + rm.slots ≤ R.slots)
    (kk : ∀ (H1 : Heap) (locs1 : List Loc), va_P D cl (mW k F N ++ mW n E M') H1 → va_D A (mW k F N ++ mW n E M') → va_S A H0 H1 locs1 → W p l e R s m args below meth c H1 locs1 (cells + rm.cells) (slots + rm.slots) Q (F0 m (pc + 3) ls (.long rv :: rest))) : W p l e R s m args below meth c H locs cells slots Q (F0 m pc ls st0) := by
  have hC := idx_l (mW n E M) (mW k F N) mW_len
  have hPc := hP.sub (List.range n) (fm_some hC)
  have hDc := hD.sub (List.range n) hnC hC
  have hF := va_free hD hS hA (List.range n) hC
  refine va_calll (va_runV (As := As) (rest := rest) S (hM H.size) cw ⟨kBlind, hrv, (kr_pre hK hPc hDc).2⟩ rfl hn hsize hst (lv_room hW) hdg hf) hS (fun q _ h => hF q h) hF (fun r u t H1 locs1 ht hvm hw hB hz1 hk1 hS1 => ?_)
  obtain ⟨hP1, hK1, hD1⟩ := hB
  obtain ⟨rfl, rfl⟩ := hw
  rw [ht] at hP1
  obtain ⟨g1, g2⟩ := va_join hP hD (List.range n) ((List.range k).map (fun i => n + i)) hC (idx_r _ _ mW_len mW_len) hnR idx_d hk1 hF hP1 hD1
  exact kk H1 locs1 g1 g2 hS1
theorem law_ViX {rv : Int32} (S : CallFix p m c cc nL s args Ts own) (hM : kMiX l y ws rm D cl tys n E (.ref b :: As) M M2 rv) (cw : CallW R s args own C index y bytes maxL ret ws rm rm.cells rm.slots nn) (hrv : ∃ cell : Cell, H[b]? = some cell ∧ cell.vm.isStatics = false ∧ s.vm.findClass C = some cell.cls) (hK : va_K D cl tys s) (hP : va_P D cl (mW n E M ++ mW k F N) H) (hD : va_D A (mW n E M ++ mW k F N)) (hS : va_S A H0 H locs) (hA : ∀ q, H0.size ≤ q → A q) (hnC : va_nd (List.range n) = true) (hnR : va_nd ((List.range k).map (fun i => n + i)) = true) (hn : As.length = nn) (hsize : ls.size = nL) (hst : st0 = As.reverse ++ .ref b :: rest) (hW : (rest.map fun v => v.category).sum ≤ 8) (hdg : decode cc pc = .ok (.invokevirtual index, 3)) (hf : cells + rm.cells ≤ R.cells ∧ slots + rm.slots ≤ R.slots)
    (kk : ∀ (ad1 : Nat → Nat) (H1 : Heap) (locs1 : List Loc), (∀ c, c < 39 → ad1 c = M.1 c) → va_P D cl (mW k F N ++ mW n E (ad1, M2)) H1 → va_D A (mW k F N ++ mW n E (ad1, M2)) → va_S A H0 H1 locs1 → W p l e R s m args below meth c H1 locs1 (cells + rm.cells) (slots + rm.slots) Q (F0 m (pc + 3) ls (.int rv :: rest))) : W p l e R s m args below meth c H locs cells slots Q (F0 m pc ls st0) := by
  have hC := idx_l (mW n E M) (mW k F N) mW_len
  have hPc := hP.sub (List.range n) (fm_some hC)
  have hDc := hD.sub (List.range n) hnC hC
  have hF := va_free hD hS hA (List.range n) hC
  refine va_calli (va_runV (As := As) (rest := rest) S (hM H.size) cw ⟨kBlind, hrv, (kr_pre hK hPc hDc).2⟩ rfl hn hsize hst (lv_room hW) hdg hf) hS (fun q _ h => hF q h) hF (fun r u t H1 locs1 ht hvm hw hB hz1 hk1 hS1 => ?_)
  obtain ⟨hP1, hK1, hD1⟩ := hB
  obtain ⟨u1, u2⟩ := u
  obtain ⟨hr, hw1, hw2⟩ := hw
  have hw1 : u2 = M2 := hw1
  subst hw1
  subst hr
  rw [ht] at hP1
  obtain ⟨g1, g2⟩ := va_join hP hD (List.range n) ((List.range k).map (fun i => n + i)) hC (idx_r _ _ mW_len mW_len) hnR idx_d hk1 hF hP1 hD1
  exact kk u1 H1 locs1 hw2 g1 g2 hS1
theorem recv_k {V : va_W} {gc : Nat → ClassId} {ad ln : Nat → Nat} {iv : Nat → Nat → Int32} {lv : Nat → Nat → Int64} (hK : va_K D vwCl (kT gc) s) (hP : va_P D vwCl (mW 42 (kE gc) (ad, ln, iv, lv) ++ V) H) : ∃ cell : Cell, H[ad 0]? = some cell ∧ cell.vm.isStatics = false ∧ s.vm.findClass "MonitorWays" = some cell.cls :=
  va_recvL hK hP 0 (he := by rw [List.getElem?_append_left (by rw [mW_len]; decide), mW_get (by decide)]; rfl) rfl
theorem recv_r {V : va_W} {gc : Nat → ClassId} {ad ln : Nat → Nat} {iv : Nat → Nat → Int32} {lv : Nat → Nat → Int64} (hK : va_K D vwCl (kT gc) s) (hP : va_P D vwCl (mW 20 (rE gc) (ad, ln, iv, lv) ++ V) H) : ∃ cell : Cell, H[ad 0]? = some cell ∧ cell.vm.isStatics = false ∧ s.vm.findClass "MonitorWaysModel" = some cell.cls :=
  va_recvL hK hP 0 (he := by rw [List.getElem?_append_left (by rw [mW_len]; decide), mW_get (by decide)]; rfl) rfl
end LWJ
theorem nd_a : va_nd (List.range 42) = true := by decide +kernel
theorem nd_b : va_nd (List.range 20) = true := by decide +kernel
theorem nd_c : va_nd ((List.range 20).map (fun i => 42 + i)) = true := by decide +kernel
theorem nd_d : va_nd ((List.range 42).map (fun i => 20 + i)) = true := by decide +kernel
theorem law_t1 (i : Nat) : nI i + 1 = nI (i + 1) := (qA i 1).symm
theorem law_t2 (i : Nat) : nI i + 2 = nI (i + 2) := (qA i 2).symm
theorem law_t3 (i : Nat) : nI i + 3 = nI (i + 3) := (qA i 3).symm
theorem law_t4 (i : Nat) : nI i + 4 = nI (i + 4) := (qA i 4).symm
theorem law_xs {xs : Nat → Int32} {j : Nat} (h : j < 2 ^ 31) : xs (nI j).toNatClampNeg = xs j := by rw [qC h]
theorem law_end {i L : Nat} (hi : i ≤ 3000) (hL : L ≤ 2049) (h : ¬ Int32.ofNat L - 4 < nI i) : i + 4 ≤ L := by
  have h1 : (Int32.ofNat L - 4).toInt = (L : Int) - 4 := by
    rw [Int32.toInt_sub, show (Int32.ofNat L).toInt = (L : Int) from qI (a := L) (by omega), show (4 : Int32).toInt = 4 by decide]
    apply Int.bmod_eq_of_le <;> omega
  rw [Int32.lt_iff_toInt_lt, h1, qI (by omega)] at h
  omega
def lawP (cells slots : Nat) (ln : Nat → Nat) : Prop := cells ≤ 100 + cA ln ∧ slots ≤ 20000 + sA ln ∧ capE (ln 40) ∧ capO (ln 41)
theorem capE_log {n n' : Nat} (h : capE n) (h' : capE n') (hl : n ≤ n') : Nat.log2 n ≤ Nat.log2 n' := by
  have e1 : Nat.log2 64 = 6 := by decide
  have e2 : Nat.log2 256 = 8 := by decide
  have e3 : Nat.log2 1024 = 10 := by decide
  have e4 : Nat.log2 4096 = 12 := by decide
  rcases h with q | q | q | q <;> rcases h' with r | r | r | r <;> subst q r <;> omega
theorem capO_log {n n' : Nat} (h : capO n) (h' : capO n') (hl : n ≤ n') : Nat.log2 n ≤ Nat.log2 n' := by
  have e1 : Nat.log2 16 = 4 := by decide
  have e2 : Nat.log2 32 = 5 := by decide
  have e3 : Nat.log2 64 = 6 := by decide
  have e4 : Nat.log2 128 = 7 := by decide
  have e5 : Nat.log2 256 = 8 := by decide
  have e6 : Nat.log2 512 = 9 := by decide
  have e7 : Nat.log2 1024 = 10 := by decide
  have e8 : Nat.log2 2048 = 11 := by decide
  have e9 : Nat.log2 4096 = 12 := by decide
  rcases h with q | q | q | q | q | q | q | q | q <;> rcases h' with r | r | r | r | r | r | r | r | r <;> subst q r <;> omega
theorem cA_mono {ln ln' : Nat → Nat} (h1 : capE (ln 40)) (h2 : capE (ln' 40)) (h3 : capO (ln 41)) (h4 : capO (ln' 41)) (hl : ln 40 ≤ ln' 40) (hl2 : ln 41 ≤ ln' 41) : cA ln ≤ cA ln' ∧ sA ln ≤ sA ln' := by
  have a := capE_log h1 h2 hl
  have b := capO_log h3 h4 hl2
  unfold cA sA
  refine ⟨by omega, ?_⟩
  omega
theorem cA_top {ln : Nat → Nat} (h1 : capE (ln 40)) (h3 : capO (ln 41)) : cA ln ≤ 24 ∧ sA ln ≤ 30100 := by
  have a := (log2c h1).1
  have b := (log2o h3).2
  unfold cA sA
  refine ⟨by omega, ?_⟩
  unfold capE at h1
  unfold capO at h3
  omega
