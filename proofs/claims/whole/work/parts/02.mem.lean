/-! MEMORY: a system of cells of a fixed shape. ad: addresses, ln: lengths, iv: ints (cell, place), lv: longs (cell, place). mW n E M: the world of n cells of the shape E. -/
abbrev KM : Type := (Nat → Nat) × (Nat → Nat) × (Nat → Nat → Int32) × (Nat → Nat → Int64)
abbrev KE : Type := (Nat → Nat) → (Nat → Nat) → (Nat → Int32) → (Nat → Int64) → Nat → va_E
def mW (n : Nat) (E : KE) (M : KM) : va_W := (List.range n).map fun c => (M.1 c, E M.1 M.2.1 (M.2.2.1 c) (M.2.2.2 c) c)
def up2 (f : Nat → Nat → Int32) (c k : Nat) (v : Int32) : Nat → Nat → Int32 := fun a => if a = c then upd (f c) k v else f a
def up2L (f : Nat → Nat → Int64) (c k : Nat) (v : Int64) : Nat → Nat → Int64 := fun a => if a = c then vp_updL (f c) k v else f a
theorem up2_c {f : Nat → Nat → Int32} {c k a : Nat} {v : Int32} (h : a ≠ c) : up2 f c k v a = f a := by simp [up2, h]
theorem up2_cc {f : Nat → Nat → Int32} {c k : Nat} {v : Int32} : up2 f c k v c = upd (f c) k v := by simp [up2]
theorem up2_s {f : Nat → Nat → Int32} {c k : Nat} {v : Int32} : up2 f c k v c k = v := by simp [up2, upd]
theorem up2_k {f : Nat → Nat → Int32} {c k j : Nat} {v : Int32} (h : j ≠ k) : up2 f c k v c j = f c j := by simp [up2, upd, h]
theorem up2_ne {f : Nat → Nat → Int32} {c k a j : Nat} {v : Int32} (h : a ≠ c) : up2 f c k v a j = f a j := by simp [up2, h]
theorem up2L_c {f : Nat → Nat → Int64} {c k a : Nat} {v : Int64} (h : a ≠ c) : up2L f c k v a = f a := by simp [up2L, h]
theorem up2L_s {f : Nat → Nat → Int64} {c k : Nat} {v : Int64} : up2L f c k v c k = v := by simp [up2L, vp_updL]
theorem up2L_k {f : Nat → Nat → Int64} {c k j : Nat} {v : Int64} (h : j ≠ k) : up2L f c k v c j = f c j := by simp [up2L, vp_updL, h]
theorem up2L_ne {f : Nat → Nat → Int64} {c k a j : Nat} {v : Int64} (h : a ≠ c) : up2L f c k v a j = f a j := by simp [up2L, h]
theorem mW_get {n : Nat} {E : KE} {M : KM} {c : Nat} (h : c < n) : (mW n E M)[c]? = some (M.1 c, E M.1 M.2.1 (M.2.2.1 c) (M.2.2.2 c) c) := by
  simp [mW, h]
theorem mW_out {n : Nat} {E : KE} {M : KM} {c : Nat} (h : ¬ c < n) : (mW n E M)[c]? = none := by
  simp [mW, h]
/-- two memories that differ in one cell's content -/
theorem mW_setG {n : Nat} {E : KE} {M M' : KM} {c : Nat} {e : va_E} (h : c < n) (he : E M'.1 M'.2.1 (M'.2.2.1 c) (M'.2.2.2 c) c = e) (ha : ∀ j, M'.1 j = M.1 j) (ho : ∀ j, j < n → j ≠ c → E M'.1 M'.2.1 (M'.2.2.1 j) (M'.2.2.2 j) j = E M.1 M.2.1 (M.2.2.1 j) (M.2.2.2 j) j) : (mW n E M).set c (M.1 c, e) = mW n E M' := by
  apply List.ext_getElem?
  intro j
  rw [List.getElem?_set]
  by_cases hj : c = j
  · subst hj
    rw [if_pos rfl, if_pos (by simp [mW, h]), mW_get h, he, ha]
  · rw [if_neg hj]
    by_cases hn : j < n
    · rw [mW_get hn, mW_get hn, ho j hn (Ne.symm hj), ha]
    · rw [mW_out hn, mW_out hn]
theorem mW_set {n : Nat} {E : KE} {ad ln : Nat → Nat} {iv : Nat → Nat → Int32} {lv : Nat → Nat → Int64} {c k : Nat} {v : Int32} {e : va_E} (h : c < n) (he : E ad ln (upd (iv c) k v) (lv c) c = e) : (mW n E (ad, ln, iv, lv)).set c (ad c, e) = mW n E (ad, ln, up2 iv c k v, lv) := by
  refine mW_setG (M := (ad, ln, iv, lv)) (M' := (ad, ln, up2 iv c k v, lv)) h ?_ (fun _ => rfl) (fun j _ hj => ?_)
  · show E ad ln (up2 iv c k v c) (lv c) c = e
    rw [up2_cc, he]
  · show E ad ln (up2 iv c k v j) (lv j) j = E ad ln (iv j) (lv j) j
    rw [up2_c hj]
theorem mW_setL {n : Nat} {E : KE} {ad ln : Nat → Nat} {iv : Nat → Nat → Int32} {lv : Nat → Nat → Int64} {c k : Nat} {v : Int64} {e : va_E} (h : c < n) (he : E ad ln (iv c) (vp_updL (lv c) k v) c = e) : (mW n E (ad, ln, iv, lv)).set c (ad c, e) = mW n E (ad, ln, iv, up2L lv c k v) := by
  refine mW_setG (M := (ad, ln, iv, lv)) (M' := (ad, ln, iv, up2L lv c k v)) h ?_ (fun _ => rfl) (fun j _ hj => ?_)
  · show E ad ln (iv c) (up2L lv c k v c) c = e
    rw [show up2L lv c k v c = vp_updL (lv c) k v by simp [up2L], he]
  · show E ad ln (iv j) (up2L lv c k v j) j = E ad ln (iv j) (lv j) j
    rw [up2L_c hj]
def kPre (D : va_G) (cl : List vw_C) (tys : List (ClassId × FieldType)) (n : Nat) (E : KE) (M : KM) (sz : Nat) (U : State) : Prop := U.heap.size = sz ∧ va_P D cl (mW n E M) U.heap ∧ va_K D cl tys U ∧ va_D (fun _ => True) (mW n E M)
def kAt (D : va_G) (cl : List vw_C) (tys : List (ClassId × FieldType)) (n : Nat) (E : KE) (A : Nat → Prop) (M : KM) (t : State) : Prop := va_P D cl (mW n E M) t.heap ∧ va_K D cl tys t ∧ va_D A (mW n E M)
/-- contracts: from the memory M the method comes to the memory M', and answers rv; it makes at most rm.cells cells of rm.slots slots -/
def kMv (l : Launch) (y : MethodName) (ws : List Cond) (rm : Room) (D : va_G) (cl : List vw_C) (tys : List (ClassId × FieldType)) (n : Nat) (E : KE) (av : List Value) (M M' : KM) : Prop := ∀ sz : Nat, Met l y ws rm (va_Pc av (kPre D cl tys n E M sz)) (va_Qv (fun u : KM => u = M') (kAt D cl tys n E (va_A (mW n E M) sz)) (va_A (mW n E M) sz)) rm.cells rm.slots (va_A (mW n E M) sz)
def kMi (l : Launch) (y : MethodName) (ws : List Cond) (rm : Room) (D : va_G) (cl : List vw_C) (tys : List (ClassId × FieldType)) (n : Nat) (E : KE) (av : List Value) (M M' : KM) (rv : Int32) : Prop := ∀ sz : Nat, Met l y ws rm (va_Pc av (kPre D cl tys n E M sz)) (va_Qi (fun (r : Int32) (u : KM) => r = rv ∧ u = M') (kAt D cl tys n E (va_A (mW n E M) sz)) (va_A (mW n E M) sz)) rm.cells rm.slots (va_A (mW n E M) sz)
def kMl (l : Launch) (y : MethodName) (ws : List Cond) (rm : Room) (D : va_G) (cl : List vw_C) (tys : List (ClassId × FieldType)) (n : Nat) (E : KE) (av : List Value) (M M' : KM) (rv : Int64) : Prop := ∀ sz : Nat, Met l y ws rm (va_Pc av (kPre D cl tys n E M sz)) (va_Ql (fun (r : Int64) (u : KM) => r = rv ∧ u = M') (kAt D cl tys n E (va_A (mW n E M) sz)) (va_A (mW n E M) sz)) rm.cells rm.slots (va_A (mW n E M) sz)
def kMr (l : Launch) (y : MethodName) (ws : List Cond) (rm : Room) (D : va_G) (cl : List vw_C) (tys : List (ClassId × FieldType)) (n : Nat) (E : KE) (av : List Value) (M M' : KM) (rv : Nat) : Prop := ∀ sz : Nat, Met l y ws rm (va_Pc av (kPre D cl tys n E M sz)) (va_Qr (fun u : KM => u = M') (fun u a t => a = rv ∧ kAt D cl tys n E (va_A (mW n E M) sz) u t) (va_A (mW n E M) sz)) rm.cells rm.slots (va_A (mW n E M) sz)
theorem kBlind {D : va_G} {cl : List vw_C} {tys : List (ClassId × FieldType)} {n : Nat} {E : KE} {M : KM} {sz : Nat} {av : List Value} : FrameBlind (va_Pc av (kPre D cl tys n E M sz)) := fun a U g mk q => by
  obtain ⟨q0, q1, qP, qK, qD⟩ := q
  exact ⟨q0, q1, qP, va_K.moved (u := U) (U := U.calling g mk a) (Vm.Alike.refl U.vm) qK, qD⟩
theorem kFree {A0 : Nat → Prop} {ws : va_W} {H0 H : Heap} {locs : List Loc} (hD : va_D A0 ws) (hS : va_S A0 H0 H locs) (hA : ∀ q, H0.size ≤ q → A0 q) : ∀ q, va_A ws H.size q → A0 q := by
  intro q h
  rcases h with ⟨k, e, h⟩ | h
  · exact hD.2 k _ h
  · exact hA q (Nat.le_trans hS.1 h)
theorem nIc {α : Type} {f : Nat → α} {k : Nat} (h : k < 2 ^ 31) : f (nI k).toNatClampNeg = f k := by rw [nI_clamp h]
section KR
variable {p : Program} {l : Launch} {e : Env} {R : Room} {s : State} {m : MethodId} {args : Array Value} {below : List Frame} {meth : Method} {c : Code} {H : Heap} {locs : List Loc} {cells slots : Nat} {Q : State → Prop}
variable {pc : Nat} {ls : Array Slot} {rest st0 : List Value} {A : Nat → Prop} {H0 : Heap} {D : va_G} {cl : List vw_C} {tys : List (ClassId × FieldType)} {cc : ByteArray} {n : Nat} {E : KE} {ad ln : Nat → Nat} {iv : Nat → Nat → Int32} {lv : Nat → Nat → Int64}
/-- the top of the stack under another name -/
theorem kr_topi {x y : Int32} (h : x = y) (k : W p l e R s m args below meth c H locs cells slots Q (F0 m pc ls (.int y :: rest))) : W p l e R s m args below meth c H locs cells slots Q (F0 m pc ls (.int x :: rest)) := h ▸ k
/-- two ways that meet again with a number on the stack -/
theorem kr_tern {M : Nat} {cnd : Prop} [Decidable cnd] {a b : Int32} (k : (cnd → W p l e R s m args below meth c H locs cells slots Q (F0 m M ls (.int a :: rest))) → (¬ cnd → W p l e R s m args below meth c H locs cells slots Q (F0 m M ls (.int b :: rest))) → W p l e R s m args below meth c H locs cells slots Q (F0 m pc ls st0)) (J : W p l e R s m args below meth c H locs cells slots Q (F0 m M ls (.int (if cnd then a else b) :: rest))) : W p l e R s m args below meth c H locs cells slots Q (F0 m pc ls st0) :=
  k (fun h => by rw [if_pos h] at J; exact J) (fun h => by rw [if_neg h] at J; exact J)
/-- a loop: at its head hd, with an invariant over a state x whose measure falls -/
theorem kr_loop {σ : Type} (μ : σ → Nat) (Inv : σ → Heap → List Loc → Array Slot → Prop) (hd : Nat) (x0 : σ) (h0 : Inv x0 H locs ls)
    (step : ∀ (x : σ) (H : Heap) (locs : List Loc) (ls : Array Slot), Inv x H locs ls → (∀ (x' : σ) (H' : Heap) (locs' : List Loc) (ls' : Array Slot), Inv x' H' locs' ls' → μ x' < μ x → W p l e R s m args below meth c H' locs' cells slots Q (F0 m hd ls' [])) → W p l e R s m args below meth c H locs cells slots Q (F0 m hd ls [])) : W p l e R s m args below meth c H locs cells slots Q (F0 m hd ls []) := by
  have key : ∀ (k : Nat) (x : σ) (H : Heap) (locs : List Loc) (ls : Array Slot), μ x < k → Inv x H locs ls → W p l e R s m args below meth c H locs cells slots Q (F0 m hd ls []) := by
    intro k
    induction k with
    | zero => intro x H locs ls h; exact absurd h (Nat.not_lt_zero _)
    | succ k ih => intro x H locs ls h hI; exact step x H locs ls hI (fun x' H' locs' ls' hI' hm => ih x' H' locs' ls' (by omega) hI')
  exact key (μ x0 + 1) x0 H locs ls (Nat.lt_succ_self _) h0
theorem kr_get (hx : p.tables.exec = Jvm.exec) (hb : c.code = cc) {own ref C : String} {T : u_T} {N ci index : Nat} {Ts : List Cond} (hts : ∀ w ∈ Ts, w.before args s = true) (hin : ∀ w ∈ u_ws C T N, w ∈ Ts) (hown : s.vm.findClass own = some m.cls) (hK : va_K D cl tys s) (hP : va_P D cl (mW n E (ad, ln, iv, lv)) H) (q : Nat) (hq : q < n) {fs : List Value} (hE : E ad ln (iv q) (lv q) q = .inr (ci, fs)) (hc : cl[ci]? = some (C, T, N)) (k : Nat) (hk : k < N) (hlink : (Cond.fieldLink own index ref (T k).2.1 (T k).2.2.1).before args s = true) (hsame : ∀ x, s.fieldFound? (T k).1 (T k).2.1 (T k).2.2.1 = some x → s.fieldFound? ref (T k).2.1 (T k).2.2.1 = some x) {v : Value} (hv : fs[k]? = some v) (hdg : decode cc pc = .ok (.getfield index, 3))
    (kk : W p l e R s m args below meth c H locs cells slots Q (F0 m (pc + 3) ls (v :: rest))) : W p l e R s m args below meth c H locs cells slots Q (F0 m pc ls (.ref (ad q) :: rest)) :=
  va_get hx hb hts hin hown hK hP q (by rw [mW_get hq]; show some (ad q, E ad ln (iv q) (lv q) q) = _; rw [hE]) hc k hk hlink hsame hv hdg kk
theorem kr_put (hx : p.tables.exec = Jvm.exec) (hb : c.code = cc) {own ref C : String} {T : u_T} {N ci index : Nat} {Ts : List Cond} (hts : ∀ w ∈ Ts, w.before args s = true) (hin : ∀ w ∈ u_ws C T N, w ∈ Ts) (ty0 : Nat → FieldType) (hty : ∀ k, k < N → parseFieldDescriptor (T k).2.2.1 = some (ty0 k)) (hnm : ∀ a, a < N → ∀ b, b < N → a ≠ b → (T a).2.1 ≠ (T b).2.1) (hown : s.vm.findClass own = some m.cls) (hK : va_K D cl tys s) (hP : va_P D cl (mW n E (ad, ln, iv, lv)) H) (hD : va_D A (mW n E (ad, ln, iv, lv))) (hS : va_S A H0 H locs) (q : Nat) (hq : q < n) {F : (Nat → Int32) → List Value} (hE : ∀ r, E ad ln r (lv q) q = .inr (ci, F r)) (hc : cl[ci]? = some (C, T, N)) (k : Nat) (hk : k < N) (hlink : (Cond.fieldLink own index ref (T k).2.1 (T k).2.2.1).before args s = true) (hsame : ∀ x, s.fieldFound? (T k).1 (T k).2.1 (T k).2.2.1 = some x → s.fieldFound? ref (T k).2.1 (T k).2.2.1 = some x) (hfin : (T k).2.2.2 = false) {ty : FieldType} {x : Int32} (hd : parseFieldDescriptor (T k).2.2.1 = some ty) (hn : narrow ty (.int x) = .int x) (hfit : fits ty (.int x) = true) (hl : ∀ r, k < (F r).length) (hset : ∀ r, (F r).set k (.int x) = F (upd r k x))
    (hdg : decode cc pc = .ok (.putfield index, 3)) (kk : ∀ (H1 : Heap) (locs1 : List Loc), va_P D cl (mW n E (ad, ln, up2 iv q k x, lv)) H1 → va_D A (mW n E (ad, ln, up2 iv q k x, lv)) → va_S A H0 H1 locs1 → W p l e R s m args below meth c H1 locs1 cells slots Q (F0 m (pc + 3) ls rest)) : W p l e R s m args below meth c H locs cells slots Q (F0 m pc ls (.int x :: .ref (ad q) :: rest)) := by
  refine va_put hx hb hts hin ty0 hty hnm hown hK hP hD hS q (by rw [mW_get hq]; show some (ad q, E ad ln (iv q) (lv q) q) = _; rw [hE]) hc k hk hlink hsame hfin hd hn hfit (hl _) hdg (fun H1 locs1 h1 h2 h3 => kk H1 locs1 ?_ ?_ h3)
  · rw [hset, mW_set hq (hE _)] at h1; exact h1
  · rw [hset, mW_set hq (hE _)] at h2; exact h2
theorem kr_iald (hx : p.tables.exec = Jvm.exec) (hb : c.code = cc) (hK : va_K D cl tys s) (hP : va_P D cl (mW n E (ad, ln, iv, lv)) H) (q t0 : Nat) (hq : q < n) {cA : ClassId} {N : Nat} (hE : E ad ln (iv q) (lv q) q = .inl (cA, N, .inl (iv q))) (ht : tys[t0]? = some (cA, .int)) {i : Int32} (hin : vp_in i N) (hdg : decode cc pc = .ok (.iaload, 1))
    (kk : W p l e R s m args below meth c H locs cells slots Q (F0 m (pc + 1) ls (.int (iv q i.toNatClampNeg) :: rest))) : W p l e R s m args below meth c H locs cells slots Q (F0 m pc ls (.int i :: .ref (ad q) :: rest)) :=
  va_iald hx hb hK hP q t0 (by rw [mW_get hq]; show some (ad q, E ad ln (iv q) (lv q) q) = _; rw [hE]) ht hin hdg kk
theorem kr_zald (hx : p.tables.exec = Jvm.exec) (hb : c.code = cc) (hK : va_K D cl tys s) (hP : va_P D cl (mW n E (ad, ln, iv, lv)) H) (q t0 : Nat) (hq : q < n) {cA : ClassId} {N : Nat} (hE : E ad ln (iv q) (lv q) q = .inl (cA, N, .inl (iv q))) (ht : tys[t0]? = some (cA, .boolean)) {i : Int32} (hin : vp_in i N) (hdg : decode cc pc = .ok (.baload, 1))
    (kk : W p l e R s m args below meth c H locs cells slots Q (F0 m (pc + 1) ls (.int (iv q i.toNatClampNeg) :: rest))) : W p l e R s m args below meth c H locs cells slots Q (F0 m pc ls (.int i :: .ref (ad q) :: rest)) :=
  va_zald hx hb hK hP q t0 (by rw [mW_get hq]; show some (ad q, E ad ln (iv q) (lv q) q) = _; rw [hE]) ht hin hdg kk
theorem kr_lald (hx : p.tables.exec = Jvm.exec) (hb : c.code = cc) (hK : va_K D cl tys s) (hP : va_P D cl (mW n E (ad, ln, iv, lv)) H) (q t0 : Nat) (hq : q < n) {cA : ClassId} {N : Nat} (hE : E ad ln (iv q) (lv q) q = .inl (cA, N, .inr (.inl (lv q)))) (ht : tys[t0]? = some (cA, .long)) {i : Int32} (hin : vp_in i N) (hdg : decode cc pc = .ok (.laload, 1))
    (kk : W p l e R s m args below meth c H locs cells slots Q (F0 m (pc + 1) ls (.long (lv q i.toNatClampNeg) :: rest))) : W p l e R s m args below meth c H locs cells slots Q (F0 m pc ls (.int i :: .ref (ad q) :: rest)) :=
  va_lald hx hb hK hP q t0 (by rw [mW_get hq]; show some (ad q, E ad ln (iv q) (lv q) q) = _; rw [hE]) ht hin hdg kk
theorem kr_aald (hx : p.tables.exec = Jvm.exec) (hb : c.code = cc) (hK : va_K D cl tys s) (hP : va_P D cl (mW n E (ad, ln, iv, lv)) H) (q t0 : Nat) (hq : q < n) {cA : ClassId} {C : String} {N : Nat} {f : Nat → Option Nat} (hE : E ad ln (iv q) (lv q) q = .inl (cA, N, .inr (.inr (.inr (.inr f))))) (ht : tys[t0]? = some (cA, .object C)) {i : Int32} (hin : vp_in i N) {a : Nat} (hf : f i.toNatClampNeg = some a) (hdg : decode cc pc = .ok (.aaload, 1))
    (kk : W p l e R s m args below meth c H locs cells slots Q (F0 m (pc + 1) ls (.ref a :: rest))) : W p l e R s m args below meth c H locs cells slots Q (F0 m pc ls (.int i :: .ref (ad q) :: rest)) := by
  refine va_aldq hx hb hK hP q t0 (by rw [mW_get hq]; show some (ad q, E ad ln (iv q) (lv q) q) = _; rw [hE]) ht hin hdg ?_
  rw [hf]
  exact kk
theorem kr_alen (hx : p.tables.exec = Jvm.exec) (hb : c.code = cc) (hK : va_K D cl tys s) (hP : va_P D cl (mW n E (ad, ln, iv, lv)) H) (q t0 : Nat) (hq : q < n) {cA : ClassId} {x : vp_A} (hE : E ad ln (iv q) (lv q) q = .inl (cA, x)) {ty : FieldType} (ht : tys[t0]? = some (cA, ty)) {v : Int32} (hv : Int32.ofNat x.1 = v) (hdg : decode cc pc = .ok (.arraylength, 1))
    (kk : W p l e R s m args below meth c H locs cells slots Q (F0 m (pc + 1) ls (.int v :: rest))) : W p l e R s m args below meth c H locs cells slots Q (F0 m pc ls (.ref (ad q) :: rest)) :=
  va_alen hx hb hK hP q t0 (by rw [mW_get hq]; show some (ad q, E ad ln (iv q) (lv q) q) = _; rw [hE]) ht hv hdg kk
theorem kr_iast (hx : p.tables.exec = Jvm.exec) (hb : c.code = cc) (hK : va_K D cl tys s) (hP : va_P D cl (mW n E (ad, ln, iv, lv)) H) (hD : va_D A (mW n E (ad, ln, iv, lv))) (hS : va_S A H0 H locs) (q t0 : Nat) (hq : q < n) {cA : ClassId} {N : Nat} (hE : ∀ r, E ad ln r (lv q) q = .inl (cA, N, .inl r)) (ht : tys[t0]? = some (cA, .int)) {i x : Int32} (hin : vp_in i N) (hdg : decode cc pc = .ok (.iastore, 1))
    (kk : ∀ (H1 : Heap) (locs1 : List Loc), va_P D cl (mW n E (ad, ln, up2 iv q i.toNatClampNeg x, lv)) H1 → va_D A (mW n E (ad, ln, up2 iv q i.toNatClampNeg x, lv)) → va_S A H0 H1 locs1 → W p l e R s m args below meth c H1 locs1 cells slots Q (F0 m (pc + 1) ls rest)) : W p l e R s m args below meth c H locs cells slots Q (F0 m pc ls (.int x :: .int i :: .ref (ad q) :: rest)) := by
  refine va_iast hx hb hK hP hD hS q t0 (by rw [mW_get hq]; show some (ad q, E ad ln (iv q) (lv q) q) = _; rw [hE]) ht hin hdg (fun H1 locs1 h1 h2 h3 => kk H1 locs1 ?_ ?_ h3)
  · rw [mW_set hq (hE _)] at h1; exact h1
  · rw [mW_set hq (hE _)] at h2; exact h2
theorem kr_zast (hx : p.tables.exec = Jvm.exec) (hb : c.code = cc) (hK : va_K D cl tys s) (hP : va_P D cl (mW n E (ad, ln, iv, lv)) H) (hD : va_D A (mW n E (ad, ln, iv, lv))) (hS : va_S A H0 H locs) (q t0 : Nat) (hq : q < n) {cA : ClassId} {N : Nat} (hE : ∀ r, E ad ln r (lv q) q = .inl (cA, N, .inl r)) (ht : tys[t0]? = some (cA, .boolean)) {i x : Int32} (hin : vp_in i N) (hnr : vp_nar .boolean x = x) (hdg : decode cc pc = .ok (.bastore, 1))
    (kk : ∀ (H1 : Heap) (locs1 : List Loc), va_P D cl (mW n E (ad, ln, up2 iv q i.toNatClampNeg x, lv)) H1 → va_D A (mW n E (ad, ln, up2 iv q i.toNatClampNeg x, lv)) → va_S A H0 H1 locs1 → W p l e R s m args below meth c H1 locs1 cells slots Q (F0 m (pc + 1) ls rest)) : W p l e R s m args below meth c H locs cells slots Q (F0 m pc ls (.int x :: .int i :: .ref (ad q) :: rest)) := by
  refine va_zast hx hb hK hP hD hS q t0 (by rw [mW_get hq]; show some (ad q, E ad ln (iv q) (lv q) q) = _; rw [hE]) ht hin hdg (fun H1 locs1 h1 h2 h3 => kk H1 locs1 ?_ ?_ h3)
  · rw [hnr, mW_set hq (hE _)] at h1; exact h1
  · rw [hnr, mW_set hq (hE _)] at h2; exact h2
theorem kr_last (hx : p.tables.exec = Jvm.exec) (hb : c.code = cc) (hK : va_K D cl tys s) (hP : va_P D cl (mW n E (ad, ln, iv, lv)) H) (hD : va_D A (mW n E (ad, ln, iv, lv))) (hS : va_S A H0 H locs) (q t0 : Nat) (hq : q < n) {cA : ClassId} {N : Nat} (hE : ∀ r, E ad ln (iv q) r q = .inl (cA, N, .inr (.inl r))) (ht : tys[t0]? = some (cA, .long)) {i : Int32} {x : Int64} (hin : vp_in i N) (hdg : decode cc pc = .ok (.lastore, 1))
    (kk : ∀ (H1 : Heap) (locs1 : List Loc), va_P D cl (mW n E (ad, ln, iv, up2L lv q i.toNatClampNeg x)) H1 → va_D A (mW n E (ad, ln, iv, up2L lv q i.toNatClampNeg x)) → va_S A H0 H1 locs1 → W p l e R s m args below meth c H1 locs1 cells slots Q (F0 m (pc + 1) ls rest)) : W p l e R s m args below meth c H locs cells slots Q (F0 m pc ls (.long x :: .int i :: .ref (ad q) :: rest)) := by
  refine va_last hx hb hK hP hD hS q t0 (by rw [mW_get hq]; show some (ad q, E ad ln (iv q) (lv q) q) = _; rw [hE]) ht hin hdg (fun H1 locs1 h1 h2 h3 => kk H1 locs1 ?_ ?_ h3)
  · rw [mW_setL hq (hE _)] at h1; exact h1
  · rw [mW_setL hq (hE _)] at h2; exact h2
theorem kr_ialdN (hx : p.tables.exec = Jvm.exec) (hb : c.code = cc) (hK : va_K D cl tys s) (hP : va_P D cl (mW n E (ad, ln, iv, lv)) H) (q t0 : Nat) (hq : q < n) {cA : ClassId} {N : Nat} (hE : E ad ln (iv q) (lv q) q = .inl (cA, N, .inl (iv q))) (ht : tys[t0]? = some (cA, .int)) {j : Nat} (hj : j < N) (hN : N < 2 ^ 31) (hdg : decode cc pc = .ok (.iaload, 1))
    (kk : W p l e R s m args below meth c H locs cells slots Q (F0 m (pc + 1) ls (.int (iv q j) :: rest))) : W p l e R s m args below meth c H locs cells slots Q (F0 m pc ls (.int (nI j) :: .ref (ad q) :: rest)) := by
  refine kr_iald hx hb hK hP q t0 hq hE ht (vp_in_nI hj hN) hdg ?_
  rw [nI_clamp (Nat.lt_trans hj hN)]
  exact kk
theorem kr_zaldN (hx : p.tables.exec = Jvm.exec) (hb : c.code = cc) (hK : va_K D cl tys s) (hP : va_P D cl (mW n E (ad, ln, iv, lv)) H) (q t0 : Nat) (hq : q < n) {cA : ClassId} {N : Nat} (hE : E ad ln (iv q) (lv q) q = .inl (cA, N, .inl (iv q))) (ht : tys[t0]? = some (cA, .boolean)) {j : Nat} (hj : j < N) (hN : N < 2 ^ 31) (hdg : decode cc pc = .ok (.baload, 1))
    (kk : W p l e R s m args below meth c H locs cells slots Q (F0 m (pc + 1) ls (.int (iv q j) :: rest))) : W p l e R s m args below meth c H locs cells slots Q (F0 m pc ls (.int (nI j) :: .ref (ad q) :: rest)) := by
  refine kr_zald hx hb hK hP q t0 hq hE ht (vp_in_nI hj hN) hdg ?_
  rw [nI_clamp (Nat.lt_trans hj hN)]
  exact kk
theorem kr_laldN (hx : p.tables.exec = Jvm.exec) (hb : c.code = cc) (hK : va_K D cl tys s) (hP : va_P D cl (mW n E (ad, ln, iv, lv)) H) (q t0 : Nat) (hq : q < n) {cA : ClassId} {N : Nat} (hE : E ad ln (iv q) (lv q) q = .inl (cA, N, .inr (.inl (lv q)))) (ht : tys[t0]? = some (cA, .long)) {j : Nat} (hj : j < N) (hN : N < 2 ^ 31) (hdg : decode cc pc = .ok (.laload, 1))
    (kk : W p l e R s m args below meth c H locs cells slots Q (F0 m (pc + 1) ls (.long (lv q j) :: rest))) : W p l e R s m args below meth c H locs cells slots Q (F0 m pc ls (.int (nI j) :: .ref (ad q) :: rest)) := by
  refine kr_lald hx hb hK hP q t0 hq hE ht (vp_in_nI hj hN) hdg ?_
  rw [nI_clamp (Nat.lt_trans hj hN)]
  exact kk
theorem kr_iastN (hx : p.tables.exec = Jvm.exec) (hb : c.code = cc) (hK : va_K D cl tys s) (hP : va_P D cl (mW n E (ad, ln, iv, lv)) H) (hD : va_D A (mW n E (ad, ln, iv, lv))) (hS : va_S A H0 H locs) (q t0 : Nat) (hq : q < n) {cA : ClassId} {N : Nat} (hE : ∀ r, E ad ln r (lv q) q = .inl (cA, N, .inl r)) (ht : tys[t0]? = some (cA, .int)) {x : Int32} {j : Nat} (hj : j < N) (hN : N < 2 ^ 31) (hdg : decode cc pc = .ok (.iastore, 1))
    (kk : ∀ (H1 : Heap) (locs1 : List Loc), va_P D cl (mW n E (ad, ln, up2 iv q j x, lv)) H1 → va_D A (mW n E (ad, ln, up2 iv q j x, lv)) → va_S A H0 H1 locs1 → W p l e R s m args below meth c H1 locs1 cells slots Q (F0 m (pc + 1) ls rest)) : W p l e R s m args below meth c H locs cells slots Q (F0 m pc ls (.int x :: .int (nI j) :: .ref (ad q) :: rest)) := by
  refine kr_iast hx hb hK hP hD hS q t0 hq hE ht (vp_in_nI hj hN) hdg (fun H1 locs1 h1 h2 h3 => kk H1 locs1 ?_ ?_ h3)
  · rw [nI_clamp (Nat.lt_trans hj hN)] at h1; exact h1
  · rw [nI_clamp (Nat.lt_trans hj hN)] at h2; exact h2
theorem kr_zastN (hx : p.tables.exec = Jvm.exec) (hb : c.code = cc) (hK : va_K D cl tys s) (hP : va_P D cl (mW n E (ad, ln, iv, lv)) H) (hD : va_D A (mW n E (ad, ln, iv, lv))) (hS : va_S A H0 H locs) (q t0 : Nat) (hq : q < n) {cA : ClassId} {N : Nat} (hE : ∀ r, E ad ln r (lv q) q = .inl (cA, N, .inl r)) (ht : tys[t0]? = some (cA, .boolean)) {x : Int32} {j : Nat} (hj : j < N) (hN : N < 2 ^ 31) (hnr : vp_nar .boolean x = x) (hdg : decode cc pc = .ok (.bastore, 1))
    (kk : ∀ (H1 : Heap) (locs1 : List Loc), va_P D cl (mW n E (ad, ln, up2 iv q j x, lv)) H1 → va_D A (mW n E (ad, ln, up2 iv q j x, lv)) → va_S A H0 H1 locs1 → W p l e R s m args below meth c H1 locs1 cells slots Q (F0 m (pc + 1) ls rest)) : W p l e R s m args below meth c H locs cells slots Q (F0 m pc ls (.int x :: .int (nI j) :: .ref (ad q) :: rest)) := by
  refine kr_zast hx hb hK hP hD hS q t0 hq hE ht (vp_in_nI hj hN) hnr hdg (fun H1 locs1 h1 h2 h3 => kk H1 locs1 ?_ ?_ h3)
  · rw [nI_clamp (Nat.lt_trans hj hN)] at h1; exact h1
  · rw [nI_clamp (Nat.lt_trans hj hN)] at h2; exact h2
theorem kr_lastN (hx : p.tables.exec = Jvm.exec) (hb : c.code = cc) (hK : va_K D cl tys s) (hP : va_P D cl (mW n E (ad, ln, iv, lv)) H) (hD : va_D A (mW n E (ad, ln, iv, lv))) (hS : va_S A H0 H locs) (q t0 : Nat) (hq : q < n) {cA : ClassId} {N : Nat} (hE : ∀ r, E ad ln (iv q) r q = .inl (cA, N, .inr (.inl r))) (ht : tys[t0]? = some (cA, .long)) {x : Int64} {j : Nat} (hj : j < N) (hN : N < 2 ^ 31) (hdg : decode cc pc = .ok (.lastore, 1))
    (kk : ∀ (H1 : Heap) (locs1 : List Loc), va_P D cl (mW n E (ad, ln, iv, up2L lv q j x)) H1 → va_D A (mW n E (ad, ln, iv, up2L lv q j x)) → va_S A H0 H1 locs1 → W p l e R s m args below meth c H1 locs1 cells slots Q (F0 m (pc + 1) ls rest)) : W p l e R s m args below meth c H locs cells slots Q (F0 m pc ls (.long x :: .int (nI j) :: .ref (ad q) :: rest)) := by
  refine kr_last hx hb hK hP hD hS q t0 hq hE ht (vp_in_nI hj hN) hdg (fun H1 locs1 h1 h2 h3 => kk H1 locs1 ?_ ?_ h3)
  · rw [nI_clamp (Nat.lt_trans hj hN)] at h1; exact h1
  · rw [nI_clamp (Nat.lt_trans hj hN)] at h2; exact h2
/-- the receiver of a call -/
theorem kr_recv (hK : va_K D cl tys s) {M : KM} (hP : va_P D cl (mW n E M) H) (q : Nat) (hq : q < n) {ci : Nat} {fs : List Value} (hE : E M.1 M.2.1 (M.2.2.1 q) (M.2.2.2 q) q = .inr (ci, fs)) {C : vw_C} (hc : cl[ci]? = some C) : ∃ cell : Cell, H[M.1 q]? = some cell ∧ cell.vm.isStatics = false ∧ s.vm.findClass C.1 = some cell.cls :=
  va_recv hK hP (q := C) hc (by rw [mW_get hq, hE])
variable {y : MethodName} {bytes : ByteArray} {maxL nL nn index : Nat} {ret : Option FieldType} {ws : List Cond} {rm : Room} {Ts : List Cond} {own C : String} {b : Nat} {As : List Value} {M M' : KM}
theorem kr_pre (hK : va_K D cl tys s) (hP : va_P D cl (mW n E M) H) (hD : va_D A (mW n E M)) {av : List Value} : PreS s H (va_Pc av (kPre D cl tys n E M H.size)) av :=
  ⟨kBlind, fun U hU hW => ⟨rfl, by rw [hU], by rw [hU]; exact hP, va_K.moved hW.alike hK, hD.weaken (fun _ _ _ _ => trivial)⟩⟩
theorem kr_callVv (S : CallFix p m c cc nL s args Ts own) (hM : kMv l y ws rm D cl tys n E (.ref b :: As) M M') (cw : CallW R s args own C index y bytes maxL ret ws rm rm.cells rm.slots nn) (hrv : ∃ cell : Cell, H[b]? = some cell ∧ cell.vm.isStatics = false ∧ s.vm.findClass C = some cell.cls) (hK : va_K D cl tys s) (hP : va_P D cl (mW n E M) H) (hD : va_D A (mW n E M)) (hS : va_S A H0 H locs) (hA : ∀ q, H0.size ≤ q → A q) (hn : As.length = nn) (hsize : ls.size = nL) (hst : st0 = As.reverse ++ .ref b :: rest) (hW : (rest.map fun v => v.category).sum ≤ 8) (hdg : decode cc pc = .ok (.invokevirtual index, 3)) (hf : cells + rm.cells ≤ R.cells ∧ slots + rm.slots ≤ R.slots)
    (kk : ∀ (H1 : Heap) (locs1 : List Loc), va_P D cl (mW n E M') H1 → va_D A (mW n E M') → va_S A H0 H1 locs1 → W p l e R s m args below meth c H1 locs1 (cells + rm.cells) (slots + rm.slots) Q (F0 m (pc + 3) ls rest)) : W p l e R s m args below meth c H locs cells slots Q (F0 m pc ls st0) := by
  have hF := kFree hD hS hA
  refine va_callv (va_runV (As := As) (rest := rest) S (hM H.size) cw ⟨kBlind, hrv, (kr_pre hK hP hD).2⟩ rfl hn hsize hst (lv_room hW) hdg hf) hS (fun q _ h => hF q h) hF (fun u t H1 locs1 ht hvm hw hB hz1 hk1 hS1 => ?_)
  obtain ⟨hP1, hK1, hD1⟩ := hB
  subst hw
  rw [ht] at hP1
  exact kk H1 locs1 hP1 (hD1.weaken (fun k q _ h => hF q.1 h)) hS1
theorem kr_callVi {rv : Int32} (S : CallFix p m c cc nL s args Ts own) (hM : kMi l y ws rm D cl tys n E (.ref b :: As) M M' rv) (cw : CallW R s args own C index y bytes maxL ret ws rm rm.cells rm.slots nn) (hrv : ∃ cell : Cell, H[b]? = some cell ∧ cell.vm.isStatics = false ∧ s.vm.findClass C = some cell.cls) (hK : va_K D cl tys s) (hP : va_P D cl (mW n E M) H) (hD : va_D A (mW n E M)) (hS : va_S A H0 H locs) (hA : ∀ q, H0.size ≤ q → A q) (hn : As.length = nn) (hsize : ls.size = nL) (hst : st0 = As.reverse ++ .ref b :: rest) (hW : (rest.map fun v => v.category).sum ≤ 8) (hdg : decode cc pc = .ok (.invokevirtual index, 3)) (hf : cells + rm.cells ≤ R.cells ∧ slots + rm.slots ≤ R.slots)
    (kk : ∀ (H1 : Heap) (locs1 : List Loc), va_P D cl (mW n E M') H1 → va_D A (mW n E M') → va_S A H0 H1 locs1 → W p l e R s m args below meth c H1 locs1 (cells + rm.cells) (slots + rm.slots) Q (F0 m (pc + 3) ls (.int rv :: rest))) : W p l e R s m args below meth c H locs cells slots Q (F0 m pc ls st0) := by
  have hF := kFree hD hS hA
  refine va_calli (va_runV (As := As) (rest := rest) S (hM H.size) cw ⟨kBlind, hrv, (kr_pre hK hP hD).2⟩ rfl hn hsize hst (lv_room hW) hdg hf) hS (fun q _ h => hF q h) hF (fun r u t H1 locs1 ht hvm hw hB hz1 hk1 hS1 => ?_)
  obtain ⟨hP1, hK1, hD1⟩ := hB
  obtain ⟨rfl, rfl⟩ := hw
  rw [ht] at hP1
  exact kk H1 locs1 hP1 (hD1.weaken (fun k q _ h => hF q.1 h)) hS1
theorem kr_callVl {rv : Int64} (S : CallFix p m c cc nL s args Ts own) (hM : kMl l y ws rm D cl tys n E (.ref b :: As) M M' rv) (cw : CallW R s args own C index y bytes maxL ret ws rm rm.cells rm.slots nn) (hrv : ∃ cell : Cell, H[b]? = some cell ∧ cell.vm.isStatics = false ∧ s.vm.findClass C = some cell.cls) (hK : va_K D cl tys s) (hP : va_P D cl (mW n E M) H) (hD : va_D A (mW n E M)) (hS : va_S A H0 H locs) (hA : ∀ q, H0.size ≤ q → A q) (hn : As.length = nn) (hsize : ls.size = nL) (hst : st0 = As.reverse ++ .ref b :: rest) (hW : (rest.map fun v => v.category).sum ≤ 8) (hdg : decode cc pc = .ok (.invokevirtual index, 3)) (hf : cells + rm.cells ≤ R.cells ∧ slots + rm.slots ≤ R.slots)
    (kk : ∀ (H1 : Heap) (locs1 : List Loc), va_P D cl (mW n E M') H1 → va_D A (mW n E M') → va_S A H0 H1 locs1 → W p l e R s m args below meth c H1 locs1 (cells + rm.cells) (slots + rm.slots) Q (F0 m (pc + 3) ls (.long rv :: rest))) : W p l e R s m args below meth c H locs cells slots Q (F0 m pc ls st0) := by
  have hF := kFree hD hS hA
  refine va_calll (va_runV (As := As) (rest := rest) S (hM H.size) cw ⟨kBlind, hrv, (kr_pre hK hP hD).2⟩ rfl hn hsize hst (lv_room hW) hdg hf) hS (fun q _ h => hF q h) hF (fun r u t H1 locs1 ht hvm hw hB hz1 hk1 hS1 => ?_)
  obtain ⟨hP1, hK1, hD1⟩ := hB
  obtain ⟨rfl, rfl⟩ := hw
  rw [ht] at hP1
  exact kk H1 locs1 hP1 (hD1.weaken (fun k q _ h => hF q.1 h)) hS1
theorem kr_callVr {rv : Nat} (S : CallFix p m c cc nL s args Ts own) (hM : kMr l y ws rm D cl tys n E (.ref b :: As) M M' rv) (cw : CallW R s args own C index y bytes maxL ret ws rm rm.cells rm.slots nn) (hrv : ∃ cell : Cell, H[b]? = some cell ∧ cell.vm.isStatics = false ∧ s.vm.findClass C = some cell.cls) (hK : va_K D cl tys s) (hP : va_P D cl (mW n E M) H) (hD : va_D A (mW n E M)) (hS : va_S A H0 H locs) (hA : ∀ q, H0.size ≤ q → A q) (hn : As.length = nn) (hsize : ls.size = nL) (hst : st0 = As.reverse ++ .ref b :: rest) (hW : (rest.map fun v => v.category).sum ≤ 8) (hdg : decode cc pc = .ok (.invokevirtual index, 3)) (hf : cells + rm.cells ≤ R.cells ∧ slots + rm.slots ≤ R.slots)
    (kk : ∀ (H1 : Heap) (locs1 : List Loc), va_P D cl (mW n E M') H1 → va_D A (mW n E M') → va_S A H0 H1 locs1 → W p l e R s m args below meth c H1 locs1 (cells + rm.cells) (slots + rm.slots) Q (F0 m (pc + 3) ls (.ref rv :: rest))) : W p l e R s m args below meth c H locs cells slots Q (F0 m pc ls st0) := by
  have hF := kFree hD hS hA
  refine va_callr (va_runV (As := As) (rest := rest) S (hM H.size) cw ⟨kBlind, hrv, (kr_pre hK hP hD).2⟩ rfl hn hsize hst (lv_room hW) hdg hf) hS (fun q _ h => hF q h) hF (fun u a t H1 locs1 ht hvm hw hB hz1 hk1 hS1 => ?_)
  obtain ⟨ha, hP1, hK1, hD1⟩ := hB
  subst hw
  subst ha
  rw [ht] at hP1
  exact kk H1 locs1 hP1 (hD1.weaken (fun k q _ h => hF q.1 h)) hS1
theorem kr_callSi {rv : Int32} (S : CallFix p m c cc nL s args Ts own) (hM : kMi l y ws rm D cl tys n E As M M' rv) (cw : CallB R s args own index y bytes maxL ret ws rm rm.cells rm.slots nn ∧ (Cond.static y).before args s = true) (hK : va_K D cl tys s) (hP : va_P D cl (mW n E M) H) (hD : va_D A (mW n E M)) (hS : va_S A H0 H locs) (hA : ∀ q, H0.size ≤ q → A q) (hn : As.length = nn) (hsize : ls.size = nL) (hst : st0 = As.reverse ++ rest) (hW : (rest.map fun v => v.category).sum ≤ 8) (hdg : decode cc pc = .ok (.invokestatic index, 3)) (hf : cells + rm.cells ≤ R.cells ∧ slots + rm.slots ≤ R.slots)
    (kk : ∀ (H1 : Heap) (locs1 : List Loc), va_P D cl (mW n E M') H1 → va_D A (mW n E M') → va_S A H0 H1 locs1 → W p l e R s m args below meth c H1 locs1 (cells + rm.cells) (slots + rm.slots) Q (F0 m (pc + 3) ls (.int rv :: rest))) : W p l e R s m args below meth c H locs cells slots Q (F0 m pc ls st0) := by
  have hF := kFree hD hS hA
  refine va_calli (va_runS (As := As) (rest := rest) S (hM H.size) cw (kr_pre hK hP hD) rfl hn hsize hst (lv_room hW) hdg hf) hS (fun q _ h => hF q h) hF (fun r u t H1 locs1 ht hvm hw hB hz1 hk1 hS1 => ?_)
  obtain ⟨hP1, hK1, hD1⟩ := hB
  obtain ⟨rfl, rfl⟩ := hw
  rw [ht] at hP1
  exact kk H1 locs1 hP1 (hD1.weaken (fun k q _ h => hF q.1 h)) hS1
/-- the ends -/
theorem kr_vret (hx : p.tables.exec = Jvm.exec) (hb : c.code = cc) (hr : meth.sig.returnType = none) (hlocks : meth.locks = false) (hK : va_K D cl tys s) (hP : va_P D cl (mW n E M) H) (hD : va_D A (mW n E M)) (hS : va_S A s.heap H locs) (hM : M = M') (hdg : decode cc pc = .ok (.return_, 1)) : W p l e R s m args below meth c H locs cells slots (MQ below (va_Qv (fun u : KM => u = M') (kAt D cl tys n E A) A) args s cells slots A) (F0 m pc ls []) := by
  subst hM
  exact W.vret hx hb hr (fun t ht hW => ⟨⟨M, rfl, rfl, by rw [ht]; exact hP, va_K.moved hW.alike hK, hD⟩, hS.F ht⟩) hS.2.2 hdg
theorem kr_iret {v rv : Int32} (hx : p.tables.exec = Jvm.exec) (hb : c.code = cc) (hr : meth.sig.returnType = some .int) (hlocks : meth.locks = false) (hK : va_K D cl tys s) (hP : va_P D cl (mW n E M) H) (hD : va_D A (mW n E M)) (hS : va_S A s.heap H locs) (hv : v = rv) (hM : M = M') (hdg : decode cc pc = .ok (.ireturn, 1)) : W p l e R s m args below meth c H locs cells slots (MQ below (va_Qi (fun (r : Int32) (u : KM) => r = rv ∧ u = M') (kAt D cl tys n E A) A) args s cells slots A) (F0 m pc ls [.int v]) := by
  subst hM
  exact W.iret hx hb hr (fun t ht hW => ⟨⟨v, M, rfl, ⟨hv, rfl⟩, by rw [ht]; exact hP, va_K.moved hW.alike hK, hD⟩, hS.F ht⟩) hS.2.2 hdg
theorem kr_zret {v rv : Int32} (hx : p.tables.exec = Jvm.exec) (hb : c.code = cc) (hr : meth.sig.returnType = some .boolean) (hlocks : meth.locks = false) (hK : va_K D cl tys s) (hP : va_P D cl (mW n E M) H) (hD : va_D A (mW n E M)) (hS : va_S A s.heap H locs) (hnr : narrow .boolean (.int v) = .int v) (hv : v = rv) (hM : M = M') (hdg : decode cc pc = .ok (.ireturn, 1)) : W p l e R s m args below meth c H locs cells slots (MQ below (va_Qi (fun (r : Int32) (u : KM) => r = rv ∧ u = M') (kAt D cl tys n E A) A) args s cells slots A) (F0 m pc ls [.int v]) := by
  subst hM
  exact W.zret hx hb hr hnr (fun t ht hW => ⟨⟨v, M, rfl, ⟨hv, rfl⟩, by rw [ht]; exact hP, va_K.moved hW.alike hK, hD⟩, hS.F ht⟩) hS.2.2 hdg
theorem kr_lret {v rv : Int64} (hx : p.tables.exec = Jvm.exec) (hb : c.code = cc) (hr : meth.sig.returnType = some .long) (hlocks : meth.locks = false) (hK : va_K D cl tys s) (hP : va_P D cl (mW n E M) H) (hD : va_D A (mW n E M)) (hS : va_S A s.heap H locs) (hv : v = rv) (hM : M = M') (hdg : decode cc pc = .ok (.lreturn, 1)) : W p l e R s m args below meth c H locs cells slots (MQ below (va_Ql (fun (r : Int64) (u : KM) => r = rv ∧ u = M') (kAt D cl tys n E A) A) args s cells slots A) (F0 m pc ls [.long v]) := by
  subst hM
  exact W.lret hx hb hr (fun t ht hW => ⟨⟨v, M, rfl, ⟨hv, rfl⟩, by rw [ht]; exact hP, va_K.moved hW.alike hK, hD⟩, hS.F ht⟩) hS.2.2 hdg
theorem kr_aret {v rv : Nat} {rt : String} (hx : p.tables.exec = Jvm.exec) (hb : c.code = cc) (hr : meth.sig.returnType = some (.object rt)) (hlocks : meth.locks = false) (hK : va_K D cl tys s) (hP : va_P D cl (mW n E M) H) (hD : va_D A (mW n E M)) (hS : va_S A s.heap H locs) (hv : v = rv) (hM : M = M') (hdg : decode cc pc = .ok (.areturn, 1)) : W p l e R s m args below meth c H locs cells slots (MQ below (va_Qr (fun u : KM => u = M') (fun u a t => a = rv ∧ kAt D cl tys n E A u t) A) args s cells slots A) (F0 m pc ls [.ref v]) := by
  subst hM
  exact W.aret hx hb hr (Or.inl ⟨_, rfl⟩) (Or.inr ⟨_, rfl⟩) (fun t ht hW => ⟨⟨M, v, rfl, rfl, hv, by rw [ht]; exact hP, va_K.moved hW.alike hK, hD⟩, hS.F ht⟩) hS.2.2 hdg
end KR
-- the beginnings: a contract out of the walk of the method body
section KS
variable {l : Launch} {y : MethodName} {ws ws' : List Cond} {rm : Room} {D : va_G} {cl : List vw_C} {tys : List (ClassId × FieldType)} {n : Nat} {E : KE} {av : List Value} {M M' : KM} {cc : ByteArray} {maxL : Nat} {ret : Option FieldType}
def kBody (l : Launch) (y : MethodName) (ws : List Cond) (rm : Room) (D : va_G) (cl : List vw_C) (tys : List (ClassId × FieldType)) (n : Nat) (E : KE) (av : List Value) (M : KM) (cc : ByteArray) (maxL : Nat) (ret : Option FieldType) (Qf : (Nat → Prop) → Array Value → State → Outcome → State → Prop) : Prop :=
  ∀ (p : Program) (e : Env) (s : State) (m : MethodId) (below : List Frame) (meth : Method) (c : Code) (A : Nat → Prop) (ls : Array Slot), p.tables.exec = Jvm.exec → c.code = cc → meth.sig.returnType = ret → (∀ w ∈ ws, w.before av.toArray s = true) → s.vm.findClass y.cls = some m.cls → meth.locks = false → c.maxLocals = maxL → (∀ q : Nat, s.heap.size ≤ q → A q) → va_K D cl tys s → va_P D cl (mW n E M) s.heap → va_D A (mW n E M) → va_S A s.heap s.heap [] → lv_has ls maxL (lv_args 0 av) →
    W p l e rm s m av.toArray below meth c s.heap [] 0 0 (MQ below (Qf A) av.toArray s rm.cells rm.slots A) (F0 m 0 ls [])
theorem kBody.met {Qf : (Nat → Prop) → Array Value → State → Outcome → State → Prop} (hy : plainName y.cls = true) (hw : ws = Cond.code y cc maxL ret :: ws') (hlen : (lg_sl av).length ≤ maxL) (h : kBody l y ws rm D cl tys n E av M cc maxL ret Qf) (sz : Nat) : Met l y ws rm (va_Pc av (kPre D cl tys n E M sz)) (Qf (va_A (mW n E M) sz)) rm.cells rm.slots (va_A (mW n E M) sz) := by
  refine Met.ofW (cc := cc) (maxL := maxL) (ret := ret) hy hw ?_
  intro p e s m args below meth c s₁ B hml hv
  obtain ⟨rfl, hsz, hP, hK, hD0⟩ := hv
  have hts := atoms_spec (ws := ws) B.pre
  have hown : s.vm.findClass y.cls = some m.cls := findClass_of_methodNamed B.named
  have hl := lv_entry av (n := maxL) hlen
  subst hsz
  rw [lg_entry_eq]
  exact h p e s m below meth c _ _ B.exec B.bytes B.returns hts hown B.notSynchronized hml (fun q h => Or.inr h) hK hP hD0.self va_S.rf hl
theorem kv_start (hy : plainName y.cls = true) (hw : ws = Cond.code y cc maxL none :: ws') (hlen : (lg_sl av).length ≤ maxL) (h : kBody l y ws rm D cl tys n E av M cc maxL none (fun A => va_Qv (fun u : KM => u = M') (kAt D cl tys n E A) A)) : kMv l y ws rm D cl tys n E av M M' := fun sz => h.met hy hw hlen sz
theorem ki_start {rv : Int32} (hy : plainName y.cls = true) (hw : ws = Cond.code y cc maxL ret :: ws') (hlen : (lg_sl av).length ≤ maxL) (h : kBody l y ws rm D cl tys n E av M cc maxL ret (fun A => va_Qi (fun (r : Int32) (u : KM) => r = rv ∧ u = M') (kAt D cl tys n E A) A)) : kMi l y ws rm D cl tys n E av M M' rv := fun sz => h.met hy hw hlen sz
theorem kl_start {rv : Int64} (hy : plainName y.cls = true) (hw : ws = Cond.code y cc maxL ret :: ws') (hlen : (lg_sl av).length ≤ maxL) (h : kBody l y ws rm D cl tys n E av M cc maxL ret (fun A => va_Ql (fun (r : Int64) (u : KM) => r = rv ∧ u = M') (kAt D cl tys n E A) A)) : kMl l y ws rm D cl tys n E av M M' rv := fun sz => h.met hy hw hlen sz
theorem kr_start {rv : Nat} (hy : plainName y.cls = true) (hw : ws = Cond.code y cc maxL ret :: ws') (hlen : (lg_sl av).length ≤ maxL) (h : kBody l y ws rm D cl tys n E av M cc maxL ret (fun A => va_Qr (fun u : KM => u = M') (fun u a t => a = rv ∧ kAt D cl tys n E A u t) A)) : kMr l y ws rm D cl tys n E av M M' rv := fun sz => h.met hy hw hlen sz
end KS
