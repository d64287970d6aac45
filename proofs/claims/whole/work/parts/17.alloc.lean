/-! NEW ARRAYS in a system of cells: an array that replaces an older one of the same place -/
theorem mem4 {ad ln : Nat → Nat} {iv iv1 : Nat → Nat → Int32} {lv lv1 : Nat → Nat → Int64} (h1 : iv = iv1) (h2 : lv = lv1) : ((ad, ln, iv, lv) : KM) = (ad, ln, iv1, lv1) := by rw [h1, h2]
theorem mem3 {ln : Nat → Nat} {iv iv1 : Nat → Nat → Int32} {lv lv1 : Nat → Nat → Int64} (h1 : iv = iv1) (h2 : lv = lv1) : ((ln, iv, lv) : (Nat → Nat) × (Nat → Nat → Int32) × (Nat → Nat → Int64)) = (ln, iv1, lv1) := by rw [h1, h2]
theorem vq_congr {cA : ClassId} {N : Nat} {f g : Nat → Option Nat} (h : ∀ j, j < N → f j = g j) : vp_cell cA (N, .inr (.inr (.inr (.inr f)))) = vp_cell cA (N, .inr (.inr (.inr (.inr g)))) := by
  rw [vp_cell_q, vp_cell_q]
  unfold arrV
  congr 1
  apply Array.ext
  · simp
  · intro i h1 h2
    simp only [Array.getElem_ofFn]
    rw [h i (by simpa using h1)]
theorem mW_swap {D : va_G} {cl : List vw_C} {n : Nat} {E : KE} {M M' : KM} {A : Nat → Prop} {q cs c : Nat} {e es : va_E} {H : Heap} (hcs : cs < n) (hc : c < n) (hne : c ≠ cs) (hP : va_P D cl ((mW n E M ++ [(q, e)]).set cs (M.1 cs, es)) H) (hD : va_D A ((mW n E M ++ [(q, e)]).set cs (M.1 cs, es)))
    (ha : M'.1 c = q) (hao : ∀ j, j < n → j ≠ c → M'.1 j = M.1 j) (he1 : E M'.1 M'.2.1 (M'.2.2.1 c) (M'.2.2.2 c) c = e) (he2 : E M'.1 M'.2.1 (M'.2.2.1 cs) (M'.2.2.2 cs) cs = es)
    (heo : ∀ j, j < n → j ≠ c → j ≠ cs → ∀ x, va_at D cl (x, E M.1 M.2.1 (M.2.2.1 j) (M.2.2.2 j) j) H → va_at D cl (x, E M'.1 M'.2.1 (M'.2.2.1 j) (M'.2.2.2 j) j) H) : va_P D cl (mW n E M') H ∧ va_D A (mW n E M') := by
  have hlen : (mW n E M).length = n := by simp [mW]
  have g1 : ∀ j, j < n → j ≠ cs → ((mW n E M ++ [(q, e)]).set cs (M.1 cs, es))[j]? = some (M.1 j, E M.1 M.2.1 (M.2.2.1 j) (M.2.2.2 j) j) := by
    intro j hj hjs
    rw [List.getElem?_set_ne (Ne.symm hjs), List.getElem?_append_left (by rw [hlen]; exact hj), mW_get hj]
  have g2 : ((mW n E M ++ [(q, e)]).set cs (M.1 cs, es))[cs]? = some (M.1 cs, es) := by
    rw [List.getElem?_set_self (by rw [List.length_append, hlen]; omega)]
  have g3 : ((mW n E M ++ [(q, e)]).set cs (M.1 cs, es))[n]? = some (q, e) := by
    rw [List.getElem?_set_ne (by omega), List.getElem?_append_right (by rw [hlen]; exact Nat.le_refl _), hlen, Nat.sub_self]
    rfl
  have gj : ∀ j, j < n → ∃ w, ((mW n E M ++ [(q, e)]).set cs (M.1 cs, es))[if j = c then n else j]? = some (M'.1 j, w) := by
    intro j hj
    by_cases hjc : j = c
    · rw [if_pos hjc, g3, hjc, ha]; exact ⟨_, rfl⟩
    · rw [if_neg hjc]
      by_cases hjs : j = cs
      · rw [hjs, g2, hao cs hcs (Ne.symm hne)]; exact ⟨_, rfl⟩
      · rw [g1 j hj hjs, hao j hj hjc]; exact ⟨_, rfl⟩
  refine ⟨fun j x hx => ?_, fun i j a b hi hj hab => ?_, fun j x hx => ?_⟩
  · by_cases hj : j < n
    · rw [mW_get hj] at hx
      cases hx
      by_cases hjc : j = c
      · subst hjc; rw [ha, he1]; exact hP n _ g3
      · by_cases hjs : j = cs
        · subst hjs; rw [hao j hj hjc, he2]; exact hP j _ g2
        · rw [hao j hj hjc]; exact heo j hj hjc hjs _ (hP j _ (g1 j hj hjs))
    · rw [mW_out hj] at hx; cases hx
  · have hin : i < n := by
      rcases Nat.lt_or_ge i n with h | h
      · exact h
      · rw [mW_out (by omega)] at hi; cases hi
    have hjn : j < n := by
      rcases Nat.lt_or_ge j n with h | h
      · exact h
      · rw [mW_out (by omega)] at hj; cases hj
    rw [mW_get hin] at hi
    rw [mW_get hjn] at hj
    cases hi
    cases hj
    obtain ⟨wi, hwi⟩ := gj i hin
    obtain ⟨wj, hwj⟩ := gj j hjn
    have h := hD.1 _ _ _ _ hwi hwj hab
    by_cases h1 : i = c
    · by_cases h2 : j = c
      · rw [h1, h2]
      · rw [if_pos h1, if_neg h2] at h; omega
    · by_cases h2 : j = c
      · rw [if_neg h1, if_pos h2] at h; omega
      · rw [if_neg h1, if_neg h2] at h; exact h
  · by_cases hj : j < n
    · rw [mW_get hj] at hx
      cases hx
      obtain ⟨w, hw⟩ := gj j hj
      exact hD.2 _ (M'.1 j, w) hw
    · rw [mW_out hj] at hx; cases hx
/-- contracts where rows of the state may move to new arrays: the cells below 39 stay where they are -/
abbrev KM2 : Type := (Nat → Nat) × (Nat → Nat → Int32) × (Nat → Nat → Int64)
def kMvX (l : Launch) (y : MethodName) (ws : List Cond) (rm : Room) (D : va_G) (cl : List vw_C) (tys : List (ClassId × FieldType)) (n : Nat) (E : KE) (av : List Value) (M : KM) (M2 : KM2) : Prop := ∀ sz : Nat, Met l y ws rm (va_Pc av (kPre D cl tys n E M sz)) (va_Qv (fun u : KM => u.2 = M2 ∧ ∀ c, c < 39 → u.1 c = M.1 c) (kAt D cl tys n E (va_A (mW n E M) sz)) (va_A (mW n E M) sz)) rm.cells rm.slots (va_A (mW n E M) sz)
def kMiX (l : Launch) (y : MethodName) (ws : List Cond) (rm : Room) (D : va_G) (cl : List vw_C) (tys : List (ClassId × FieldType)) (n : Nat) (E : KE) (av : List Value) (M : KM) (M2 : KM2) (rv : Int32) : Prop := ∀ sz : Nat, Met l y ws rm (va_Pc av (kPre D cl tys n E M sz)) (va_Qi (fun (r : Int32) (u : KM) => r = rv ∧ u.2 = M2 ∧ ∀ c, c < 39 → u.1 c = M.1 c) (kAt D cl tys n E (va_A (mW n E M) sz)) (va_A (mW n E M) sz)) rm.cells rm.slots (va_A (mW n E M) sz)
section KX
variable {p : Program} {l : Launch} {e : Env} {R : Room} {s : State} {m : MethodId} {args : Array Value} {below : List Frame} {meth : Method} {c : Code} {H : Heap} {locs : List Loc} {cells slots : Nat} {Q : State → Prop}
variable {pc : Nat} {ls : Array Slot} {rest st0 : List Value} {A : Nat → Prop} {H0 : Heap} {D : va_G} {cl : List vw_C} {tys : List (ClassId × FieldType)} {cc : ByteArray} {n : Nat} {E : KE} {ad ln : Nat → Nat} {iv : Nat → Nat → Int32} {lv : Nat → Nat → Int64}
theorem kr_newI {ws : va_W} (hx : p.tables.exec = Jvm.exec) (hb : c.code = cc) (harr : (Cond.arrayClass FieldType.int).before args s = true) (hK : va_K D cl tys s) (hP : va_P D cl ws H) (hD : va_D A ws) (hS : va_S A H0 H locs) (hA : ∀ q, H0.size ≤ q → A q) {cI : ClassId} (t0 : Nat) (ht : tys[t0]? = some (cI, .int)) {N : Nat} (hN : N ≤ 65536) (hcells : cells + 1 ≤ R.cells) (hslots : slots + N ≤ R.slots) (hdg : decode cc pc = .ok (.newarray .int, 2))
    (kk : ∀ (q : Nat) (H1 : Heap), va_P D cl (ws ++ [(q, .inl (cI, N, .inl (fun _ => 0)))]) H1 → va_D A (ws ++ [(q, .inl (cI, N, .inl (fun _ => 0)))]) → va_S A H0 H1 locs → W p l e R s m args below meth c H1 locs (cells + 1) (slots + N) Q (F0 m (pc + 2) ls (.ref q :: rest))) : W p l e R s m args below meth c H locs cells slots Q (F0 m pc ls (.int (nI N) :: rest)) := by
  refine va_newa (atype := .int) (ty := .int) (a0 := (N, .inl (fun _ => 0))) hx hb harr rfl hK hP hD hS hA (fun cA => by rw [vp_cell_i]; rfl) (nI_pos (by omega)) (nI_clamp (by omega)) (by show N * 4 ≤ 536870912; omega) hcells hslots hdg (fun q cA H1 hK1 hP1 hD1 hS1 => ?_)
  have h1 := (hK1.2 tys.length (cA, .int) (by rw [List.getElem?_append_right (Nat.le_refl _), Nat.sub_self]; rfl)).2
  have h2 := (hK.2 t0 _ ht).2
  have : cA = cI := Option.some.inj ((show s.vm.findClass ("[" ++ FieldType.int.toString) = some cA from h1).symm.trans (show s.vm.findClass ("[" ++ FieldType.int.toString) = some cI from h2))
  subst this
  exact kk q H1 hP1 hD1 hS1
theorem kr_newJ {ws : va_W} (hx : p.tables.exec = Jvm.exec) (hb : c.code = cc) (harr : (Cond.arrayClass FieldType.long).before args s = true) (hK : va_K D cl tys s) (hP : va_P D cl ws H) (hD : va_D A ws) (hS : va_S A H0 H locs) (hA : ∀ q, H0.size ≤ q → A q) {cI : ClassId} (t0 : Nat) (ht : tys[t0]? = some (cI, .long)) {N : Nat} (hN : N ≤ 65536) (hcells : cells + 1 ≤ R.cells) (hslots : slots + N ≤ R.slots) (hdg : decode cc pc = .ok (.newarray .long, 2))
    (kk : ∀ (q : Nat) (H1 : Heap), va_P D cl (ws ++ [(q, .inl (cI, N, .inr (.inl (fun _ => 0))))]) H1 → va_D A (ws ++ [(q, .inl (cI, N, .inr (.inl (fun _ => 0))))]) → va_S A H0 H1 locs → W p l e R s m args below meth c H1 locs (cells + 1) (slots + N) Q (F0 m (pc + 2) ls (.ref q :: rest))) : W p l e R s m args below meth c H locs cells slots Q (F0 m pc ls (.int (nI N) :: rest)) := by
  refine va_newa (atype := .long) (ty := .long) (a0 := (N, .inr (.inl (fun _ => 0)))) hx hb harr rfl hK hP hD hS hA (fun cA => by rw [vp_cell_l]; rfl) (nI_pos (by omega)) (nI_clamp (by omega)) (by show N * 8 ≤ 536870912; omega) hcells hslots hdg (fun q cA H1 hK1 hP1 hD1 hS1 => ?_)
  have h1 := (hK1.2 tys.length (cA, .long) (by rw [List.getElem?_append_right (Nat.le_refl _), Nat.sub_self]; rfl)).2
  have h2 := (hK.2 t0 _ ht).2
  have : cA = cI := Option.some.inj ((show s.vm.findClass ("[" ++ FieldType.long.toString) = some cA from h1).symm.trans (show s.vm.findClass ("[" ++ FieldType.long.toString) = some cI from h2))
  subst this
  exact kk q H1 hP1 hD1 hS1
/-- a new array goes into a field of the cell cs, in the place of the cell c -/
theorem kr_putA (hx : p.tables.exec = Jvm.exec) (hb : c.code = cc) {own ref C : String} {T : u_T} {N ci index : Nat} {Ts : List Cond} (hts : ∀ w ∈ Ts, w.before args s = true) (hin : ∀ w ∈ u_ws C T N, w ∈ Ts) (ty0 : Nat → FieldType) (hty : ∀ k, k < N → parseFieldDescriptor (T k).2.2.1 = some (ty0 k)) (hnm : ∀ a, a < N → ∀ b, b < N → a ≠ b → (T a).2.1 ≠ (T b).2.1) (hown : s.vm.findClass own = some m.cls) (hK : va_K D cl tys s) {M : KM} {q : Nat} {ea : va_E} (hP : va_P D cl (mW n E M ++ [(q, ea)]) H) (hD : va_D A (mW n E M ++ [(q, ea)])) (hS : va_S A H0 H locs) (cs : Nat) (hcs : cs < n) {fs : List Value} (hE : E M.1 M.2.1 (M.2.2.1 cs) (M.2.2.2 cs) cs = .inr (ci, fs)) (hc : cl[ci]? = some (C, T, N)) (k : Nat) (hk : k < N) (hlink : (Cond.fieldLink own index ref (T k).2.1 (T k).2.2.1).before args s = true) (hsame : ∀ x, s.fieldFound? (T k).1 (T k).2.1 (T k).2.2.1 = some x → s.fieldFound? ref (T k).2.1 (T k).2.2.1 = some x) (hfin : (T k).2.2.2 = false) {ty : FieldType} (hd : parseFieldDescriptor (T k).2.2.1 = some ty) (hn : narrow ty (.ref q) = .ref q) (hfit : fits ty (.ref q) = true) (hl : k < fs.length)
    (M' : KM) (c' : Nat) (hc' : c' < n) (hne : c' ≠ cs) (ha : M'.1 c' = q) (hao : ∀ j, j < n → j ≠ c' → M'.1 j = M.1 j) (he1 : E M'.1 M'.2.1 (M'.2.2.1 c') (M'.2.2.2 c') c' = ea) (he2 : E M'.1 M'.2.1 (M'.2.2.1 cs) (M'.2.2.2 cs) cs = .inr (ci, fs.set k (.ref q)))
    (heo : ∀ j, j < n → j ≠ c' → j ≠ cs → ∀ (x : Nat) (H : Heap), va_at D cl (x, E M.1 M.2.1 (M.2.2.1 j) (M.2.2.2 j) j) H → va_at D cl (x, E M'.1 M'.2.1 (M'.2.2.1 j) (M'.2.2.2 j) j) H) (hdg : decode cc pc = .ok (.putfield index, 3))
    (kk : ∀ (H1 : Heap) (locs1 : List Loc), va_P D cl (mW n E M') H1 → va_D A (mW n E M') → va_S A H0 H1 locs1 → W p l e R s m args below meth c H1 locs1 cells slots Q (F0 m (pc + 3) ls rest)) : W p l e R s m args below meth c H locs cells slots Q (F0 m pc ls (.ref q :: .ref (M.1 cs) :: rest)) := by
  have hlen : (mW n E M).length = n := by simp [mW]
  refine va_put hx hb hts hin ty0 hty hnm hown hK hP hD hS cs (by rw [List.getElem?_append_left (by rw [hlen]; exact hcs), mW_get hcs, hE]) hc k hk hlink hsame hfin hd hn hfit hl hdg (fun H1 locs1 h1 h2 h3 => ?_)
  obtain ⟨g1, g2⟩ := mW_swap hcs hc' hne h1 h2 ha hao he1 he2 (fun j q1 q2 q3 x h => heo j q1 q2 q3 x H1 h)
  exact kk H1 locs1 g1 g2 h3
variable {y : MethodName} {bytes : ByteArray} {maxL nL nn index : Nat} {ret : Option FieldType} {ws : List Cond} {rm : Room} {Ts : List Cond} {own C : String} {b : Nat} {As : List Value} {M : KM} {M2 : KM2}
theorem kr_callVvX (S : CallFix p m c cc nL s args Ts own) (hM : kMvX l y ws rm D cl tys n E (.ref b :: As) M M2) (cw : CallW R s args own C index y bytes maxL ret ws rm rm.cells rm.slots nn) (hrv : ∃ cell : Cell, H[b]? = some cell ∧ cell.vm.isStatics = false ∧ s.vm.findClass C = some cell.cls) (hK : va_K D cl tys s) (hP : va_P D cl (mW n E M) H) (hD : va_D A (mW n E M)) (hS : va_S A H0 H locs) (hA : ∀ q, H0.size ≤ q → A q) (hn : As.length = nn) (hsize : ls.size = nL) (hst : st0 = As.reverse ++ .ref b :: rest) (hW : (rest.map fun v => v.category).sum ≤ 8) (hdg : decode cc pc = .ok (.invokevirtual index, 3)) (hf : cells + rm.cells ≤ R.cells ∧ slots + rm.slots ≤ R.slots)
    (kk : ∀ (ad1 : Nat → Nat) (H1 : Heap) (locs1 : List Loc), (∀ c, c < 39 → ad1 c = M.1 c) → va_P D cl (mW n E (ad1, M2)) H1 → va_D A (mW n E (ad1, M2)) → va_S A H0 H1 locs1 → W p l e R s m args below meth c H1 locs1 (cells + rm.cells) (slots + rm.slots) Q (F0 m (pc + 3) ls rest)) : W p l e R s m args below meth c H locs cells slots Q (F0 m pc ls st0) := by
  have hF := kFree hD hS hA
  refine va_callv (va_runV (As := As) (rest := rest) S (hM H.size) cw ⟨kBlind, hrv, (kr_pre hK hP hD).2⟩ rfl hn hsize hst (lv_room hW) hdg hf) hS (fun q _ h => hF q h) hF (fun u t H1 locs1 ht hvm hw hB hz1 hk1 hS1 => ?_)
  obtain ⟨hP1, hK1, hD1⟩ := hB
  obtain ⟨u1, u2⟩ := u
  obtain ⟨hw1, hw2⟩ := hw
  have hw1 : u2 = M2 := hw1
  subst hw1
  rw [ht] at hP1
  exact kk u1 H1 locs1 hw2 hP1 (hD1.weaken (fun k q _ h => hF q.1 h)) hS1
theorem kr_callViX {rv : Int32} (S : CallFix p m c cc nL s args Ts own) (hM : kMiX l y ws rm D cl tys n E (.ref b :: As) M M2 rv) (cw : CallW R s args own C index y bytes maxL ret ws rm rm.cells rm.slots nn) (hrv : ∃ cell : Cell, H[b]? = some cell ∧ cell.vm.isStatics = false ∧ s.vm.findClass C = some cell.cls) (hK : va_K D cl tys s) (hP : va_P D cl (mW n E M) H) (hD : va_D A (mW n E M)) (hS : va_S A H0 H locs) (hA : ∀ q, H0.size ≤ q → A q) (hn : As.length = nn) (hsize : ls.size = nL) (hst : st0 = As.reverse ++ .ref b :: rest) (hW : (rest.map fun v => v.category).sum ≤ 8) (hdg : decode cc pc = .ok (.invokevirtual index, 3)) (hf : cells + rm.cells ≤ R.cells ∧ slots + rm.slots ≤ R.slots)
    (kk : ∀ (ad1 : Nat → Nat) (H1 : Heap) (locs1 : List Loc), (∀ c, c < 39 → ad1 c = M.1 c) → va_P D cl (mW n E (ad1, M2)) H1 → va_D A (mW n E (ad1, M2)) → va_S A H0 H1 locs1 → W p l e R s m args below meth c H1 locs1 (cells + rm.cells) (slots + rm.slots) Q (F0 m (pc + 3) ls (.int rv :: rest))) : W p l e R s m args below meth c H locs cells slots Q (F0 m pc ls st0) := by
  have hF := kFree hD hS hA
  refine va_calli (va_runV (As := As) (rest := rest) S (hM H.size) cw ⟨kBlind, hrv, (kr_pre hK hP hD).2⟩ rfl hn hsize hst (lv_room hW) hdg hf) hS (fun q _ h => hF q h) hF (fun r u t H1 locs1 ht hvm hw hB hz1 hk1 hS1 => ?_)
  obtain ⟨hP1, hK1, hD1⟩ := hB
  obtain ⟨u1, u2⟩ := u
  obtain ⟨hr, hw1, hw2⟩ := hw
  have hw1 : u2 = M2 := hw1
  subst hw1
  subst hr
  rw [ht] at hP1
  exact kk u1 H1 locs1 hw2 hP1 (hD1.weaken (fun k q _ h => hF q.1 h)) hS1
theorem kr_vretX {ad1 : Nat → Nat} (hx : p.tables.exec = Jvm.exec) (hb : c.code = cc) (hr : meth.sig.returnType = none) (hlocks : meth.locks = false) (hK : va_K D cl tys s) (hP : va_P D cl (mW n E (ad1, M2)) H) (hD : va_D A (mW n E (ad1, M2))) (hS : va_S A s.heap H locs) {M2' : KM2} (hM : M2 = M2') (hag : ∀ c, c < 39 → ad1 c = M.1 c) (hdg : decode cc pc = .ok (.return_, 1)) : W p l e R s m args below meth c H locs cells slots (MQ below (va_Qv (fun u : KM => u.2 = M2' ∧ ∀ c, c < 39 → u.1 c = M.1 c) (kAt D cl tys n E A) A) args s cells slots A) (F0 m pc ls []) := by
  subst hM
  exact W.vret hx hb hr (fun t ht hW => ⟨⟨(ad1, M2), rfl, ⟨rfl, hag⟩, by rw [ht]; exact hP, va_K.moved hW.alike hK, hD⟩, hS.F ht⟩) hS.2.2 hdg
theorem kr_iretX {ad1 : Nat → Nat} {v rv : Int32} (hx : p.tables.exec = Jvm.exec) (hb : c.code = cc) (hr : meth.sig.returnType = some .int) (hlocks : meth.locks = false) (hK : va_K D cl tys s) (hP : va_P D cl (mW n E (ad1, M2)) H) (hD : va_D A (mW n E (ad1, M2))) (hS : va_S A s.heap H locs) (hv : v = rv) {M2' : KM2} (hM : M2 = M2') (hag : ∀ c, c < 39 → ad1 c = M.1 c) (hdg : decode cc pc = .ok (.ireturn, 1)) : W p l e R s m args below meth c H locs cells slots (MQ below (va_Qi (fun (r : Int32) (u : KM) => r = rv ∧ u.2 = M2' ∧ ∀ c, c < 39 → u.1 c = M.1 c) (kAt D cl tys n E A) A) args s cells slots A) (F0 m pc ls [.int v]) := by
  subst hM
  exact W.iret hx hb hr (fun t ht hW => ⟨⟨v, (ad1, M2), rfl, ⟨hv, rfl, hag⟩, by rw [ht]; exact hP, va_K.moved hW.alike hK, hD⟩, hS.F ht⟩) hS.2.2 hdg
theorem kr_zretX {ad1 : Nat → Nat} {v rv : Int32} (hx : p.tables.exec = Jvm.exec) (hb : c.code = cc) (hr : meth.sig.returnType = some .boolean) (hlocks : meth.locks = false) (hK : va_K D cl tys s) (hP : va_P D cl (mW n E (ad1, M2)) H) (hD : va_D A (mW n E (ad1, M2))) (hS : va_S A s.heap H locs) (hnr : narrow .boolean (.int v) = .int v) (hv : v = rv) {M2' : KM2} (hM : M2 = M2') (hag : ∀ c, c < 39 → ad1 c = M.1 c) (hdg : decode cc pc = .ok (.ireturn, 1)) : W p l e R s m args below meth c H locs cells slots (MQ below (va_Qi (fun (r : Int32) (u : KM) => r = rv ∧ u.2 = M2' ∧ ∀ c, c < 39 → u.1 c = M.1 c) (kAt D cl tys n E A) A) args s cells slots A) (F0 m pc ls [.int v]) := by
  subst hM
  exact W.zret hx hb hr hnr (fun t ht hW => ⟨⟨v, (ad1, M2), rfl, ⟨hv, rfl, hag⟩, by rw [ht]; exact hP, va_K.moved hW.alike hK, hD⟩, hS.F ht⟩) hS.2.2 hdg
/-- a loop that may make cells: what is made so far is a number of the state -/
theorem kr_loopC {σ : Type} (μ : σ → Nat) (cs sl : σ → Nat) (Inv : σ → Heap → List Loc → Array Slot → Prop) (hd : Nat) (x0 : σ) (h0 : Inv x0 H locs ls) (hc0 : cells = cs x0) (hs0 : slots = sl x0)
    (step : ∀ (x : σ) (H : Heap) (locs : List Loc) (ls : Array Slot), Inv x H locs ls → (∀ (x' : σ) (H' : Heap) (locs' : List Loc) (ls' : Array Slot), Inv x' H' locs' ls' → μ x' < μ x → W p l e R s m args below meth c H' locs' (cs x') (sl x') Q (F0 m hd ls' [])) → W p l e R s m args below meth c H locs (cs x) (sl x) Q (F0 m hd ls [])) : W p l e R s m args below meth c H locs cells slots Q (F0 m hd ls []) := by
  have key : ∀ (k : Nat) (x : σ) (H : Heap) (locs : List Loc) (ls : Array Slot), μ x < k → Inv x H locs ls → W p l e R s m args below meth c H locs (cs x) (sl x) Q (F0 m hd ls []) := by
    intro k
    induction k with
    | zero => intro x H locs ls h; exact absurd h (Nat.not_lt_zero _)
    | succ k ih => intro x H locs ls h hI; exact step x H locs ls hI (fun x' H' locs' ls' hI' hm => ih x' H' locs' ls' (by omega) hI')
  rw [hc0, hs0]
  exact key (μ x0 + 1) x0 H locs ls (Nat.lt_succ_self _) h0
theorem W_room {cells' slots' : Nat} {g : JFrame} (h1 : cells = cells') (h2 : slots = slots') (k : W p l e R s m args below meth c H locs cells' slots' Q g) : W p l e R s m args below meth c H locs cells slots Q g := by
  subst h1; subst h2; exact k
end KX
section KSX
variable {l : Launch} {y : MethodName} {ws ws' : List Cond} {rm : Room} {D : va_G} {cl : List vw_C} {tys : List (ClassId × FieldType)} {n : Nat} {E : KE} {av : List Value} {M : KM} {M2 : KM2} {cc : ByteArray} {maxL : Nat} {ret : Option FieldType}
theorem kvX_start (hy : plainName y.cls = true) (hw : ws = Cond.code y cc maxL none :: ws') (hlen : (lg_sl av).length ≤ maxL) (h : kBody l y ws rm D cl tys n E av M cc maxL none (fun A => va_Qv (fun u : KM => u.2 = M2 ∧ ∀ c, c < 39 → u.1 c = M.1 c) (kAt D cl tys n E A) A)) : kMvX l y ws rm D cl tys n E av M M2 := fun sz => h.met hy hw hlen sz
theorem kiX_start {rv : Int32} (hy : plainName y.cls = true) (hw : ws = Cond.code y cc maxL ret :: ws') (hlen : (lg_sl av).length ≤ maxL) (h : kBody l y ws rm D cl tys n E av M cc maxL ret (fun A => va_Qi (fun (r : Int32) (u : KM) => r = rv ∧ u.2 = M2 ∧ ∀ c, c < 39 → u.1 c = M.1 c) (kAt D cl tys n E A) A)) : kMiX l y ws rm D cl tys n E av M M2 rv := fun sz => h.met hy hw hlen sz
end KSX
section KM2
variable {p : Program} {l : Launch} {e : Env} {R : Room} {s : State} {m : MethodId} {args : Array Value} {below : List Frame} {meth : Method} {c : Code} {H : Heap} {locs : List Loc} {cells slots : Nat} {Q : State → Prop}
variable {pc : Nat} {ls : Array Slot} {rest st0 : List Value} {A : Nat → Prop} {H0 : Heap} {D : va_G} {cl : List vw_C} {n : Nat} {E : KE} {ad ln : Nat → Nat} {lv : Nat → Nat → Int64}
/-- two ways that meet again with two memories -/
theorem kr_ternM {M : Nat} {cnd : Prop} [Decidable cnd] {ma mb : Nat → Nat → Int32} (k : (cnd → ∀ (H1 : Heap) (locs1 : List Loc), va_P D cl (mW n E (ad, ln, ma, lv)) H1 → va_D A (mW n E (ad, ln, ma, lv)) → va_S A H0 H1 locs1 → W p l e R s m args below meth c H1 locs1 cells slots Q (F0 m M ls rest)) → (¬ cnd → ∀ (H1 : Heap) (locs1 : List Loc), va_P D cl (mW n E (ad, ln, mb, lv)) H1 → va_D A (mW n E (ad, ln, mb, lv)) → va_S A H0 H1 locs1 → W p l e R s m args below meth c H1 locs1 cells slots Q (F0 m M ls rest)) → W p l e R s m args below meth c H locs cells slots Q (F0 m pc ls st0))
    (J : ∀ (H1 : Heap) (locs1 : List Loc), va_P D cl (mW n E (ad, ln, if cnd then ma else mb, lv)) H1 → va_D A (mW n E (ad, ln, if cnd then ma else mb, lv)) → va_S A H0 H1 locs1 → W p l e R s m args below meth c H1 locs1 cells slots Q (F0 m M ls rest)) : W p l e R s m args below meth c H locs cells slots Q (F0 m pc ls st0) :=
  k (fun h H1 locs1 h1 h2 h3 => J H1 locs1 (by rw [if_pos h]; exact h1) (by rw [if_pos h]; exact h2) h3) (fun h H1 locs1 h1 h2 h3 => J H1 locs1 (by rw [if_neg h]; exact h1) (by rw [if_neg h]; exact h2) h3)
end KM2
