def lawJ (ln : Nat → Nat) (iv : Nat → Nat → Int32) (lv : Nat → Nat → Int64) (jv : Nat → Nat → Int32) (kv : Nat → Nat → Int64) : Prop := ∃ P a s, LJ P a s (ln, iv, lv) (jv, kv)
def lawK (p : Program) (l : Launch) (e : Env) (s : State) (m : MethodId) (b : Nat) (below : List Frame) (meth : Method) (c : Code) (D : va_G) (gc : Nat → ClassId) (adR lnR : Nat → Nat) (a0 : Nat) (ls : Array Slot) : Prop := ∀ (ln : Nat → Nat) (iv : Nat → Nat → Int32) (lv : Nat → Nat → Int64) (jv : Nat → Nat → Int32) (kv : Nat → Nat → Int64) (adC : Nat → Nat) (H : Heap) (locs : List Loc) (cells slots : Nat), lawJ ln iv lv jv kv → lawP cells slots ln → adC 0 = a0 → va_P D vwCl (mW 42 (kE gc) (adC, ln, iv, lv) ++ mW 20 (rE gc) (adR, lnR, jv, kv)) H → va_D (fun q : Nat => s.heap.size ≤ q) (mW 42 (kE gc) (adC, ln, iv, lv) ++ mW 20 (rE gc) (adR, lnR, jv, kv)) → va_S (fun q : Nat => s.heap.size ≤ q) s.heap H locs → W p l e room_1 s m #[Value.ref b] below meth c H locs cells slots (lw_Z below #[Value.ref b] s) (F0 m 448 ls [])
set_option maxHeartbeats 4000000 in
set_option maxRecDepth 100000 in
theorem law_c0 {p : Program} {l : Launch} {e : Env} {s : State} {m : MethodId} {below : List Frame} {meth : Method} {c : Code} {D : va_G} {gc : Nat → ClassId} {b L : Nat} {xs : Nat → Int32} (hL : L ≤ 2049) (C0 : lw_At p s m meth c b L xs) (hK : va_K D vwCl (kT gc) s) {i : Nat} (hi : i + 4 ≤ L) {ln : Nat → Nat} {iv : Nat → Nat → Int32} {lv : Nat → Nat → Int64} {jv : Nat → Nat → Int32} {kv : Nat → Nat → Int64} {adC adR lnR : Nat → Nat} {H : Heap} {locs : List Loc} {cells slots : Nat} (hJ : lawJ ln iv lv jv kv) (hR : lawP cells slots ln) (hP : va_P D vwCl (mW 42 (kE gc) (adC, ln, iv, lv) ++ mW 20 (rE gc) (adR, lnR, jv, kv)) H) (hD : va_D (fun q : Nat => s.heap.size ≤ q) (mW 42 (kE gc) (adC, ln, iv, lv) ++ mW 20 (rE gc) (adR, lnR, jv, kv))) (hS : va_S (fun q : Nat => s.heap.size ≤ q) s.heap H locs) {ls : Array Slot} (hl : lv_has ls 4 [(0, .ref b), (1, .ref (adC 0)), (2, .ref (adR 0)), (3, .int (nI i))]) (kk : lawK p l e s m b below meth c D gc adR lnR (adC 0) ls) : W p l e room_1 s m #[Value.ref b] below meth c H locs cells slots (lw_Z below #[Value.ref b] s) (F0 m 108 ls []) := by
  obtain ⟨hx, hb, hr, hml, hown, hts, hX, hbl, hlocks, hgv⟩ := C0
  have hA : ∀ q : Nat, s.heap.size ≤ q → (fun q : Nat => s.heap.size ≤ q) q := fun _ h => h
  have hbA : ¬ (fun q : Nat => s.heap.size ≤ q) b := Nat.not_le.mpr hbl
  obtain ⟨P9, a9, s9, hJ⟩ := hJ
  have htop := cA_top hR.2.2.1 hR.2.2.2
  have hc1 : cells ≤ 600000 := by have := hR.1; omega
  have hc2 : slots ≤ 7302250 := by have := hR.2.1; omega
  obtain ⟨t, n, p1, p2, p3, p4, p5, heq, P1, a1, s1, hJ1⟩ := hJ.act (xs (i + 1)) (xs (i + 2)) (xs (i + 3))
  refine lv_aload_n hx hb dL_law_108 rfl (lv_at hl 1 rfl) ?_
  refine lv_aload_n hx hb dL_law_109 rfl (lv_at hl 0 rfl) ?_
  refine lv_iload_n hx hb dL_law_110 rfl (lv_at hl 3 rfl) ?_
  refine lv_iconst (v := 1) hx hb dL_law_111 (by decide) ?_
  refine lv_iadd hx hb dL_law_112 ?_
  refine kr_topi (law_t1 i) ?_
  refine va_sld hx hb hX hbl hbA hS (vin (n := i + 1) (N := L) (by omega) (by omega)) dL_law_113 ?_
  refine kr_topi (law_xs (by omega)) ?_
  refine lv_aload_n hx hb dL_law_114 rfl (lv_at hl 0 rfl) ?_
  refine lv_iload_n hx hb dL_law_115 rfl (lv_at hl 3 rfl) ?_
  refine lv_iconst (v := 2) hx hb dL_law_116 (by decide) ?_
  refine lv_iadd hx hb dL_law_117 ?_
  refine kr_topi (law_t2 i) ?_
  refine va_sld hx hb hX hbl hbA hS (vin (n := i + 2) (N := L) (by omega) (by omega)) dL_law_118 ?_
  refine kr_topi (law_xs (by omega)) ?_
  refine lv_aload_n hx hb dL_law_119 rfl (lv_at hl 0 rfl) ?_
  refine lv_iload_n hx hb dL_law_120 rfl (lv_at hl 3 rfl) ?_
  refine lv_iconst (v := 3) hx hb dL_law_121 (by decide) ?_
  refine lv_iadd hx hb dL_law_122 ?_
  refine kr_topi (law_t3 i) ?_
  refine va_sld hx hb hX hbl hbA hS (vin (n := i + 3) (N := L) (by omega) (by omega)) dL_law_123 ?_
  refine kr_topi (law_xs (by omega)) ?_
  refine law_Vi (As := [.int (xs (i + 1)), .int (xs (i + 2)), .int (xs (i + 3))]) (rest := []) ⟨hx, hb, hml, hown, hts⟩ (c_xAct l D gc adC ln iv lv (xs (i + 1)) t p1 (xs (i + 2)) (xs (i + 3)) n p3 p4) (cwV 3 hts (goodV (fun _ h => lwt h) tw_219 tw_220 tw_221 tw_1 tw_222) rfl rfl rfl (by decide +kernel) ⟨Nat.le_of_ble_eq_true rfl, Nat.le_of_ble_eq_true rfl⟩) (recv_k hK hP) hK hP hD hS hA nd_a nd_c rfl hl.1 rfl (Nat.le_of_ble_eq_true rfl) dL_law_124 ⟨hc1, hc2⟩ (fun H locs hP hD hS => ?_)
  refine lv_aload_n hx hb dL_law_127 rfl (lv_at hl 2 rfl) ?_
  refine lv_aload_n hx hb dL_law_128 rfl (lv_at hl 0 rfl) ?_
  refine lv_iload_n hx hb dL_law_129 rfl (lv_at hl 3 rfl) ?_
  refine lv_iconst (v := 1) hx hb dL_law_130 (by decide) ?_
  refine lv_iadd hx hb dL_law_131 ?_
  refine kr_topi (law_t1 i) ?_
  refine va_sld hx hb hX hbl hbA hS (vin (n := i + 1) (N := L) (by omega) (by omega)) dL_law_132 ?_
  refine kr_topi (law_xs (by omega)) ?_
  refine lv_aload_n hx hb dL_law_133 rfl (lv_at hl 0 rfl) ?_
  refine lv_iload_n hx hb dL_law_134 rfl (lv_at hl 3 rfl) ?_
  refine lv_iconst (v := 2) hx hb dL_law_135 (by decide) ?_
  refine lv_iadd hx hb dL_law_136 ?_
  refine kr_topi (law_t2 i) ?_
  refine va_sld hx hb hX hbl hbA hS (vin (n := i + 2) (N := L) (by omega) (by omega)) dL_law_137 ?_
  refine kr_topi (law_xs (by omega)) ?_
  refine lv_aload_n hx hb dL_law_138 rfl (lv_at hl 0 rfl) ?_
  refine lv_iload_n hx hb dL_law_139 rfl (lv_at hl 3 rfl) ?_
  refine lv_iconst (v := 3) hx hb dL_law_140 (by decide) ?_
  refine lv_iadd hx hb dL_law_141 ?_
  refine kr_topi (law_t3 i) ?_
  refine va_sld hx hb hX hbl hbA hS (vin (n := i + 3) (N := L) (by omega) (by omega)) dL_law_142 ?_
  refine kr_topi (law_xs (by omega)) ?_
  refine law_Vi (As := [.int (xs (i + 1)), .int (xs (i + 2)), .int (xs (i + 3))]) (rest := [.int (r_xAct iv (xs (i + 1)) t (xs (i + 2)) (xs (i + 3)) n)]) ⟨hx, hb, hml, hown, hts⟩ (c_oAct l D gc adR lnR jv kv (xs (i + 1)) t p2 (xs (i + 2)) (xs (i + 3)) n p5) (cwV 3 hts (goodV (fun _ h => lwt h) tw_655 tw_656 tw_657 tw_8 tw_658) rfl rfl rfl (by decide +kernel) ⟨Nat.le_of_ble_eq_true rfl, Nat.le_of_ble_eq_true rfl⟩) (recv_r hK hP) hK hP hD hS hA nd_b nd_d rfl hl.1 rfl (Nat.le_of_ble_eq_true rfl) dL_law_143 ⟨hc1, hc2⟩ (fun H locs hP hD hS => ?_)
  refine lv_icmp_eq (tgt := 448) hx hb dL_law_146 (by decide) (fun _ => ?_) (fun c1 => absurd heq c1)
  exact kk _ _ _ _ _ adC _ _ _ _ ⟨P1, a1, s1, hJ1⟩ hR rfl hP hD hS
set_option maxHeartbeats 4000000 in
set_option maxRecDepth 100000 in
theorem law_c1 {p : Program} {l : Launch} {e : Env} {s : State} {m : MethodId} {below : List Frame} {meth : Method} {c : Code} {D : va_G} {gc : Nat → ClassId} {b L : Nat} {xs : Nat → Int32} (hL : L ≤ 2049) (C0 : lw_At p s m meth c b L xs) (hK : va_K D vwCl (kT gc) s) {i : Nat} (hi : i + 4 ≤ L) {ln : Nat → Nat} {iv : Nat → Nat → Int32} {lv : Nat → Nat → Int64} {jv : Nat → Nat → Int32} {kv : Nat → Nat → Int64} {adC adR lnR : Nat → Nat} {H : Heap} {locs : List Loc} {cells slots : Nat} (hJ : lawJ ln iv lv jv kv) (hR : lawP cells slots ln) (hP : va_P D vwCl (mW 42 (kE gc) (adC, ln, iv, lv) ++ mW 20 (rE gc) (adR, lnR, jv, kv)) H) (hD : va_D (fun q : Nat => s.heap.size ≤ q) (mW 42 (kE gc) (adC, ln, iv, lv) ++ mW 20 (rE gc) (adR, lnR, jv, kv))) (hS : va_S (fun q : Nat => s.heap.size ≤ q) s.heap H locs) {ls : Array Slot} (hl : lv_has ls 4 [(0, .ref b), (1, .ref (adC 0)), (2, .ref (adR 0)), (3, .int (nI i))]) (kk : lawK p l e s m b below meth c D gc adR lnR (adC 0) ls) : W p l e room_1 s m #[Value.ref b] below meth c H locs cells slots (lw_Z below #[Value.ref b] s) (F0 m 151 ls []) := by
  obtain ⟨hx, hb, hr, hml, hown, hts, hX, hbl, hlocks, hgv⟩ := C0
  have hA : ∀ q : Nat, s.heap.size ≤ q → (fun q : Nat => s.heap.size ≤ q) q := fun _ h => h
  have hbA : ¬ (fun q : Nat => s.heap.size ≤ q) b := Nat.not_le.mpr hbl
  obtain ⟨P9, a9, s9, hJ⟩ := hJ
  have htop := cA_top hR.2.2.1 hR.2.2.2
  have hc1 : cells ≤ 600000 := by have := hR.1; omega
  have hc2 : slots ≤ 7302250 := by have := hR.2.1; omega
  obtain ⟨t, mm, u, sz, mm1, u1, pp, sz1, v1, v2, k0, p1, p2, q1, q2, q3, q4, hT, hsz, hs4, hent, hRr, hMm, hLl, heq, b1, hJ1⟩ := hJ.choose (xs (i + 1)) (xs (i + 2))
  refine lv_aload_n hx hb dL_law_151 rfl (lv_at hl 1 rfl) ?_
  refine lv_aload_n hx hb dL_law_152 rfl (lv_at hl 0 rfl) ?_
  refine lv_iload_n hx hb dL_law_153 rfl (lv_at hl 3 rfl) ?_
  refine lv_iconst (v := 1) hx hb dL_law_154 (by decide) ?_
  refine lv_iadd hx hb dL_law_155 ?_
  refine kr_topi (law_t1 i) ?_
  refine va_sld hx hb hX hbl hbA hS (vin (n := i + 1) (N := L) (by omega) (by omega)) dL_law_156 ?_
  refine kr_topi (law_xs (by omega)) ?_
  refine lv_aload_n hx hb dL_law_157 rfl (lv_at hl 0 rfl) ?_
  refine lv_iload_n hx hb dL_law_158 rfl (lv_at hl 3 rfl) ?_
  refine lv_iconst (v := 2) hx hb dL_law_159 (by decide) ?_
  refine lv_iadd hx hb dL_law_160 ?_
  refine kr_topi (law_t2 i) ?_
  refine va_sld hx hb hX hbl hbA hS (vin (n := i + 2) (N := L) (by omega) (by omega)) dL_law_161 ?_
  refine kr_topi (law_xs (by omega)) ?_
  refine law_Vi (As := [.int (xs (i + 1)), .int (xs (i + 2))]) (rest := []) ⟨hx, hb, hml, hown, hts⟩ (c_xChoose l D gc adC ln iv lv (xs (i + 1)) t p1 (xs (i + 2)) mm u q1 q2 hT sz hsz hs4 hent) (cwV 2 hts (goodV (fun _ h => lwt h) tw_245 tw_246 tw_247 tw_1 tw_248) rfl rfl rfl (by decide +kernel) ⟨Nat.le_of_ble_eq_true rfl, Nat.le_of_ble_eq_true rfl⟩) (recv_k hK hP) hK hP hD hS hA nd_a nd_c rfl hl.1 rfl (Nat.le_of_ble_eq_true rfl) dL_law_162 ⟨hc1, hc2⟩ (fun H locs hP hD hS => ?_)
  refine lv_aload_n hx hb dL_law_165 rfl (lv_at hl 2 rfl) ?_
  refine lv_aload_n hx hb dL_law_166 rfl (lv_at hl 0 rfl) ?_
  refine lv_iload_n hx hb dL_law_167 rfl (lv_at hl 3 rfl) ?_
  refine lv_iconst (v := 1) hx hb dL_law_168 (by decide) ?_
  refine lv_iadd hx hb dL_law_169 ?_
  refine kr_topi (law_t1 i) ?_
  refine va_sld hx hb hX hbl hbA hS (vin (n := i + 1) (N := L) (by omega) (by omega)) dL_law_170 ?_
  refine kr_topi (law_xs (by omega)) ?_
  refine lv_aload_n hx hb dL_law_171 rfl (lv_at hl 0 rfl) ?_
  refine lv_iload_n hx hb dL_law_172 rfl (lv_at hl 3 rfl) ?_
  refine lv_iconst (v := 2) hx hb dL_law_173 (by decide) ?_
  refine lv_iadd hx hb dL_law_174 ?_
  refine kr_topi (law_t2 i) ?_
  refine va_sld hx hb hX hbl hbA hS (vin (n := i + 2) (N := L) (by omega) (by omega)) dL_law_175 ?_
  refine kr_topi (law_xs (by omega)) ?_
  refine law_Vi (As := [.int (xs (i + 1)), .int (xs (i + 2))]) (rest := [.int (r_xChoose iv (xs (i + 1)) t (xs (i + 2)) mm u sz)]) ⟨hx, hb, hml, hown, hts⟩ (c_oChoose l D gc adR lnR jv kv (xs (i + 1)) t p2 (xs (i + 2)) mm1 u1 pp q3 q4 hRr sz1 v1 v2 k0 hMm hLl) (cwV 2 hts (goodV (fun _ h => lwt h) tw_666 tw_667 tw_668 tw_8 tw_669) rfl rfl rfl (by decide +kernel) ⟨Nat.le_of_ble_eq_true rfl, Nat.le_of_ble_eq_true rfl⟩) (recv_r hK hP) hK hP hD hS hA nd_b nd_d rfl hl.1 rfl (Nat.le_of_ble_eq_true rfl) dL_law_176 ⟨hc1, hc2⟩ (fun H locs hP hD hS => ?_)
  refine lv_icmp_eq (tgt := 448) hx hb dL_law_179 (by decide) (fun _ => ?_) (fun c1 => absurd heq c1)
  exact kk _ _ _ _ _ adC _ _ _ _ ⟨_, b1, _, hJ1⟩ hR rfl hP hD hS
set_option maxHeartbeats 4000000 in
set_option maxRecDepth 100000 in
theorem law_c2 {p : Program} {l : Launch} {e : Env} {s : State} {m : MethodId} {below : List Frame} {meth : Method} {c : Code} {D : va_G} {gc : Nat → ClassId} {b L : Nat} {xs : Nat → Int32} (hL : L ≤ 2049) (C0 : lw_At p s m meth c b L xs) (hK : va_K D vwCl (kT gc) s) {i : Nat} (hi : i + 4 ≤ L) {ln : Nat → Nat} {iv : Nat → Nat → Int32} {lv : Nat → Nat → Int64} {jv : Nat → Nat → Int32} {kv : Nat → Nat → Int64} {adC adR lnR : Nat → Nat} {H : Heap} {locs : List Loc} {cells slots : Nat} (hJ : lawJ ln iv lv jv kv) (hR : lawP cells slots ln) (hP : va_P D vwCl (mW 42 (kE gc) (adC, ln, iv, lv) ++ mW 20 (rE gc) (adR, lnR, jv, kv)) H) (hD : va_D (fun q : Nat => s.heap.size ≤ q) (mW 42 (kE gc) (adC, ln, iv, lv) ++ mW 20 (rE gc) (adR, lnR, jv, kv))) (hS : va_S (fun q : Nat => s.heap.size ≤ q) s.heap H locs) {ls : Array Slot} (hl : lv_has ls 4 [(0, .ref b), (1, .ref (adC 0)), (2, .ref (adR 0)), (3, .int (nI i))]) (kk : lawK p l e s m b below meth c D gc adR lnR (adC 0) ls) : W p l e room_1 s m #[Value.ref b] below meth c H locs cells slots (lw_Z below #[Value.ref b] s) (F0 m 184 ls []) := by
  obtain ⟨hx, hb, hr, hml, hown, hts, hX, hbl, hlocks, hgv⟩ := C0
  have hA : ∀ q : Nat, s.heap.size ≤ q → (fun q : Nat => s.heap.size ≤ q) q := fun _ h => h
  have hbA : ¬ (fun q : Nat => s.heap.size ≤ q) b := Nat.not_le.mpr hbl
  obtain ⟨P9, a9, s9, hJ⟩ := hJ
  have htop := cA_top hR.2.2.1 hR.2.2.2
  have hc1 : cells ≤ 600000 := by have := hR.1; omega
  have hc2 : slots ≤ 7302250 := by have := hR.2.1; omega
  obtain ⟨t, mm, u, mm1, u1, pp, p1, p2, q1, q2, q3, q4, hT, hRr, heq, hJ1⟩ := hJ.allowed (xs (i + 1)) (xs (i + 2))
  refine lv_aload_n hx hb dL_law_184 rfl (lv_at hl 1 rfl) ?_
  refine lv_aload_n hx hb dL_law_185 rfl (lv_at hl 0 rfl) ?_
  refine lv_iload_n hx hb dL_law_186 rfl (lv_at hl 3 rfl) ?_
  refine lv_iconst (v := 1) hx hb dL_law_187 (by decide) ?_
  refine lv_iadd hx hb dL_law_188 ?_
  refine kr_topi (law_t1 i) ?_
  refine va_sld hx hb hX hbl hbA hS (vin (n := i + 1) (N := L) (by omega) (by omega)) dL_law_189 ?_
  refine kr_topi (law_xs (by omega)) ?_
  refine lv_aload_n hx hb dL_law_190 rfl (lv_at hl 0 rfl) ?_
  refine lv_iload_n hx hb dL_law_191 rfl (lv_at hl 3 rfl) ?_
  refine lv_iconst (v := 2) hx hb dL_law_192 (by decide) ?_
  refine lv_iadd hx hb dL_law_193 ?_
  refine kr_topi (law_t2 i) ?_
  refine va_sld hx hb hX hbl hbA hS (vin (n := i + 2) (N := L) (by omega) (by omega)) dL_law_194 ?_
  refine kr_topi (law_xs (by omega)) ?_
  refine law_Vi (As := [.int (xs (i + 1)), .int (xs (i + 2))]) (rest := []) ⟨hx, hb, hml, hown, hts⟩ (c_xAllowed l D gc adC ln iv lv (xs (i + 1)) t p1 (xs (i + 2)) mm u q1 q2 hT) (cwV 2 hts (goodV (fun _ h => lwt h) tw_365 tw_366 tw_367 tw_1 tw_368) rfl rfl rfl (by decide +kernel) ⟨Nat.le_of_ble_eq_true rfl, Nat.le_of_ble_eq_true rfl⟩) (recv_k hK hP) hK hP hD hS hA nd_a nd_c rfl hl.1 rfl (Nat.le_of_ble_eq_true rfl) dL_law_195 ⟨hc1, hc2⟩ (fun H locs hP hD hS => ?_)
  refine lv_aload_n hx hb dL_law_198 rfl (lv_at hl 2 rfl) ?_
  refine lv_aload_n hx hb dL_law_199 rfl (lv_at hl 0 rfl) ?_
  refine lv_iload_n hx hb dL_law_200 rfl (lv_at hl 3 rfl) ?_
  refine lv_iconst (v := 1) hx hb dL_law_201 (by decide) ?_
  refine lv_iadd hx hb dL_law_202 ?_
  refine kr_topi (law_t1 i) ?_
  refine va_sld hx hb hX hbl hbA hS (vin (n := i + 1) (N := L) (by omega) (by omega)) dL_law_203 ?_
  refine kr_topi (law_xs (by omega)) ?_
  refine lv_aload_n hx hb dL_law_204 rfl (lv_at hl 0 rfl) ?_
  refine lv_iload_n hx hb dL_law_205 rfl (lv_at hl 3 rfl) ?_
  refine lv_iconst (v := 2) hx hb dL_law_206 (by decide) ?_
  refine lv_iadd hx hb dL_law_207 ?_
  refine kr_topi (law_t2 i) ?_
  refine va_sld hx hb hX hbl hbA hS (vin (n := i + 2) (N := L) (by omega) (by omega)) dL_law_208 ?_
  refine kr_topi (law_xs (by omega)) ?_
  refine law_Vi (As := [.int (xs (i + 1)), .int (xs (i + 2))]) (rest := [.int (r_xAllowed iv (xs (i + 1)) t (xs (i + 2)) mm u)]) ⟨hx, hb, hml, hown, hts⟩ (c_oAllowed l D gc adR lnR jv kv (xs (i + 1)) t p2 (xs (i + 2)) mm1 u1 pp q3 q4 hRr) (cwV 2 hts (goodV (fun _ h => lwt h) tw_748 tw_749 tw_750 tw_8 tw_751) rfl rfl rfl (by decide +kernel) ⟨Nat.le_of_ble_eq_true rfl, Nat.le_of_ble_eq_true rfl⟩) (recv_r hK hP) hK hP hD hS hA nd_b nd_d rfl hl.1 rfl (Nat.le_of_ble_eq_true rfl) dL_law_209 ⟨hc1, hc2⟩ (fun H locs hP hD hS => ?_)
  refine lv_icmp_eq (tgt := 448) hx hb dL_law_212 (by decide) (fun _ => ?_) (fun c1 => absurd heq c1)
  exact kk _ _ _ _ _ adC _ _ _ _ ⟨_, _, _, hJ1⟩ hR rfl hP hD hS
set_option maxHeartbeats 4000000 in
set_option maxRecDepth 100000 in
theorem law_c3 {p : Program} {l : Launch} {e : Env} {s : State} {m : MethodId} {below : List Frame} {meth : Method} {c : Code} {D : va_G} {gc : Nat → ClassId} {b L : Nat} {xs : Nat → Int32} (hL : L ≤ 2049) (C0 : lw_At p s m meth c b L xs) (hK : va_K D vwCl (kT gc) s) {i : Nat} (hi : i + 4 ≤ L) {ln : Nat → Nat} {iv : Nat → Nat → Int32} {lv : Nat → Nat → Int64} {jv : Nat → Nat → Int32} {kv : Nat → Nat → Int64} {adC adR lnR : Nat → Nat} {H : Heap} {locs : List Loc} {cells slots : Nat} (hJ : lawJ ln iv lv jv kv) (hR : lawP cells slots ln) (hP : va_P D vwCl (mW 42 (kE gc) (adC, ln, iv, lv) ++ mW 20 (rE gc) (adR, lnR, jv, kv)) H) (hD : va_D (fun q : Nat => s.heap.size ≤ q) (mW 42 (kE gc) (adC, ln, iv, lv) ++ mW 20 (rE gc) (adR, lnR, jv, kv))) (hS : va_S (fun q : Nat => s.heap.size ≤ q) s.heap H locs) {ls : Array Slot} (hl : lv_has ls 4 [(0, .ref b), (1, .ref (adC 0)), (2, .ref (adR 0)), (3, .int (nI i))]) (kk : lawK p l e s m b below meth c D gc adR lnR (adC 0) ls) : W p l e room_1 s m #[Value.ref b] below meth c H locs cells slots (lw_Z below #[Value.ref b] s) (F0 m 217 ls []) := by
  obtain ⟨hx, hb, hr, hml, hown, hts, hX, hbl, hlocks, hgv⟩ := C0
  have hA : ∀ q : Nat, s.heap.size ≤ q → (fun q : Nat => s.heap.size ≤ q) q := fun _ h => h
  have hbA : ¬ (fun q : Nat => s.heap.size ≤ q) b := Nat.not_le.mpr hbl
  obtain ⟨P9, a9, s9, hJ⟩ := hJ
  have htop := cA_top hR.2.2.1 hR.2.2.2
  have hc1 : cells ≤ 600000 := by have := hR.1; omega
  have hc2 : slots ≤ 7302250 := by have := hR.2.1; omega
  obtain ⟨heq, hJ1⟩ := hJ.reset
  refine lv_aload_n hx hb dL_law_217 rfl (lv_at hl 1 rfl) ?_
  refine law_Vi (As := []) (rest := []) ⟨hx, hb, hml, hown, hts⟩ (c_xReset l D gc adC ln iv lv) (cwV 0 hts (goodV (fun _ h => lwt h) tw_369 tw_370 tw_371 tw_1 tw_372) rfl rfl rfl (by decide +kernel) ⟨Nat.le_of_ble_eq_true rfl, Nat.le_of_ble_eq_true rfl⟩) (recv_k hK hP) hK hP hD hS hA nd_a nd_c rfl hl.1 rfl (Nat.le_of_ble_eq_true rfl) dL_law_218 ⟨hc1, hc2⟩ (fun H locs hP hD hS => ?_)
  refine lv_aload_n hx hb dL_law_221 rfl (lv_at hl 2 rfl) ?_
  refine law_Vi (As := []) (rest := [.int (r_xReset iv)]) ⟨hx, hb, hml, hown, hts⟩ (c_oReset l D gc adR lnR jv kv) (cwV 0 hts (goodV (fun _ h => lwt h) tw_752 tw_557 tw_558 tw_8 tw_559) rfl rfl rfl (by decide +kernel) ⟨Nat.le_of_ble_eq_true rfl, Nat.le_of_ble_eq_true rfl⟩) (recv_r hK hP) hK hP hD hS hA nd_b nd_d rfl hl.1 rfl (Nat.le_of_ble_eq_true rfl) dL_law_222 ⟨hc1, hc2⟩ (fun H locs hP hD hS => ?_)
  refine lv_icmp_eq (tgt := 448) hx hb dL_law_225 (by decide) (fun _ => ?_) (fun c1 => absurd heq c1)
  exact kk _ _ _ _ _ adC _ _ _ _ ⟨_, _, _, hJ1⟩ hR rfl hP hD hS
set_option maxHeartbeats 4000000 in
set_option maxRecDepth 100000 in
theorem law_c4 {p : Program} {l : Launch} {e : Env} {s : State} {m : MethodId} {below : List Frame} {meth : Method} {c : Code} {D : va_G} {gc : Nat → ClassId} {b L : Nat} {xs : Nat → Int32} (hL : L ≤ 2049) (C0 : lw_At p s m meth c b L xs) (hK : va_K D vwCl (kT gc) s) {i : Nat} (hi : i + 4 ≤ L) {ln : Nat → Nat} {iv : Nat → Nat → Int32} {lv : Nat → Nat → Int64} {jv : Nat → Nat → Int32} {kv : Nat → Nat → Int64} {adC adR lnR : Nat → Nat} {H : Heap} {locs : List Loc} {cells slots : Nat} (hJ : lawJ ln iv lv jv kv) (hR : lawP cells slots ln) (hP : va_P D vwCl (mW 42 (kE gc) (adC, ln, iv, lv) ++ mW 20 (rE gc) (adR, lnR, jv, kv)) H) (hD : va_D (fun q : Nat => s.heap.size ≤ q) (mW 42 (kE gc) (adC, ln, iv, lv) ++ mW 20 (rE gc) (adR, lnR, jv, kv))) (hS : va_S (fun q : Nat => s.heap.size ≤ q) s.heap H locs) {ls : Array Slot} (hl : lv_has ls 4 [(0, .ref b), (1, .ref (adC 0)), (2, .ref (adR 0)), (3, .int (nI i))]) (kk : lawK p l e s m b below meth c D gc adR lnR (adC 0) ls) : W p l e room_1 s m #[Value.ref b] below meth c H locs cells slots (lw_Z below #[Value.ref b] s) (F0 m 230 ls []) := by
  obtain ⟨hx, hb, hr, hml, hown, hts, hX, hbl, hlocks, hgv⟩ := C0
  have hA : ∀ q : Nat, s.heap.size ≤ q → (fun q : Nat => s.heap.size ≤ q) q := fun _ h => h
  have hbA : ¬ (fun q : Nat => s.heap.size ≤ q) b := Nat.not_le.mpr hbl
  obtain ⟨P9, a9, s9, hJ⟩ := hJ
  have htop := cA_top hR.2.2.1 hR.2.2.2
  have hc1 : cells ≤ 600000 := by have := hR.1; omega
  have hc2 : slots ≤ 7302250 := by have := hR.2.1; omega
  obtain ⟨t, p1, p2, heq, hJ1⟩ := hJ.state (xs (i + 1))
  refine lv_aload_n hx hb dL_law_230 rfl (lv_at hl 1 rfl) ?_
  refine lv_aload_n hx hb dL_law_231 rfl (lv_at hl 0 rfl) ?_
  refine lv_iload_n hx hb dL_law_232 rfl (lv_at hl 3 rfl) ?_
  refine lv_iconst (v := 1) hx hb dL_law_233 (by decide) ?_
  refine lv_iadd hx hb dL_law_234 ?_
  refine kr_topi (law_t1 i) ?_
  refine va_sld hx hb hX hbl hbA hS (vin (n := i + 1) (N := L) (by omega) (by omega)) dL_law_235 ?_
  refine kr_topi (law_xs (by omega)) ?_
  refine law_Vi (As := [.int (xs (i + 1))]) (rest := []) ⟨hx, hb, hml, hown, hts⟩ (c_xState l D gc adC ln iv lv (xs (i + 1)) t p1) (cwV 1 hts (goodV (fun _ h => lwt h) tw_373 tw_374 tw_375 tw_1 tw_376) rfl rfl rfl (by decide +kernel) ⟨Nat.le_of_ble_eq_true rfl, Nat.le_of_ble_eq_true rfl⟩) (recv_k hK hP) hK hP hD hS hA nd_a nd_c rfl hl.1 rfl (Nat.le_of_ble_eq_true rfl) dL_law_236 ⟨hc1, hc2⟩ (fun H locs hP hD hS => ?_)
  refine lv_aload_n hx hb dL_law_239 rfl (lv_at hl 2 rfl) ?_
  refine lv_aload_n hx hb dL_law_240 rfl (lv_at hl 0 rfl) ?_
  refine lv_iload_n hx hb dL_law_241 rfl (lv_at hl 3 rfl) ?_
  refine lv_iconst (v := 1) hx hb dL_law_242 (by decide) ?_
  refine lv_iadd hx hb dL_law_243 ?_
  refine kr_topi (law_t1 i) ?_
  refine va_sld hx hb hX hbl hbA hS (vin (n := i + 1) (N := L) (by omega) (by omega)) dL_law_244 ?_
  refine kr_topi (law_xs (by omega)) ?_
  refine law_Vi (As := [.int (xs (i + 1))]) (rest := [.int (r_xState iv (xs (i + 1)) t)]) ⟨hx, hb, hml, hown, hts⟩ (c_oState l D gc adR lnR jv kv (xs (i + 1)) t p2) (cwV 1 hts (goodV (fun _ h => lwt h) tw_753 tw_754 tw_755 tw_8 tw_756) rfl rfl rfl (by decide +kernel) ⟨Nat.le_of_ble_eq_true rfl, Nat.le_of_ble_eq_true rfl⟩) (recv_r hK hP) hK hP hD hS hA nd_b nd_d rfl hl.1 rfl (Nat.le_of_ble_eq_true rfl) dL_law_245 ⟨hc1, hc2⟩ (fun H locs hP hD hS => ?_)
  refine lv_icmp_eq (tgt := 448) hx hb dL_law_248 (by decide) (fun _ => ?_) (fun c1 => absurd heq c1)
  exact kk _ _ _ _ _ adC _ _ _ _ ⟨_, _, _, hJ1⟩ hR rfl hP hD hS
set_option maxHeartbeats 4000000 in
set_option maxRecDepth 100000 in
theorem law_c5 {p : Program} {l : Launch} {e : Env} {s : State} {m : MethodId} {below : List Frame} {meth : Method} {c : Code} {D : va_G} {gc : Nat → ClassId} {b L : Nat} {xs : Nat → Int32} (hL : L ≤ 2049) (C0 : lw_At p s m meth c b L xs) (hK : va_K D vwCl (kT gc) s) {i : Nat} (hi : i + 4 ≤ L) {ln : Nat → Nat} {iv : Nat → Nat → Int32} {lv : Nat → Nat → Int64} {jv : Nat → Nat → Int32} {kv : Nat → Nat → Int64} {adC adR lnR : Nat → Nat} {H : Heap} {locs : List Loc} {cells slots : Nat} (hJ : lawJ ln iv lv jv kv) (hR : lawP cells slots ln) (hP : va_P D vwCl (mW 42 (kE gc) (adC, ln, iv, lv) ++ mW 20 (rE gc) (adR, lnR, jv, kv)) H) (hD : va_D (fun q : Nat => s.heap.size ≤ q) (mW 42 (kE gc) (adC, ln, iv, lv) ++ mW 20 (rE gc) (adR, lnR, jv, kv))) (hS : va_S (fun q : Nat => s.heap.size ≤ q) s.heap H locs) {ls : Array Slot} (hl : lv_has ls 4 [(0, .ref b), (1, .ref (adC 0)), (2, .ref (adR 0)), (3, .int (nI i))]) (kk : lawK p l e s m b below meth c D gc adR lnR (adC 0) ls) : W p l e room_1 s m #[Value.ref b] below meth c H locs cells slots (lw_Z below #[Value.ref b] s) (F0 m 253 ls []) := by
  obtain ⟨hx, hb, hr, hml, hown, hts, hX, hbl, hlocks, hgv⟩ := C0
  have hA : ∀ q : Nat, s.heap.size ≤ q → (fun q : Nat => s.heap.size ≤ q) q := fun _ h => h
  have hbA : ¬ (fun q : Nat => s.heap.size ≤ q) b := Nat.not_le.mpr hbl
  obtain ⟨P9, a9, s9, hJ⟩ := hJ
  have htop := cA_top hR.2.2.1 hR.2.2.2
  have hc1 : cells ≤ 600000 := by have := hR.1; omega
  have hc2 : slots ≤ 7302250 := by have := hR.2.1; omega
  obtain ⟨t, n, kx, p1, p2, p3, p4, p5, p6, heq, hJ1⟩ := hJ.letter (xs (i + 1)) (xs (i + 2))
  refine lv_aload_n hx hb dL_law_253 rfl (lv_at hl 1 rfl) ?_
  refine lv_aload_n hx hb dL_law_254 rfl (lv_at hl 0 rfl) ?_
  refine lv_iload_n hx hb dL_law_255 rfl (lv_at hl 3 rfl) ?_
  refine lv_iconst (v := 1) hx hb dL_law_256 (by decide) ?_
  refine lv_iadd hx hb dL_law_257 ?_
  refine kr_topi (law_t1 i) ?_
  refine va_sld hx hb hX hbl hbA hS (vin (n := i + 1) (N := L) (by omega) (by omega)) dL_law_258 ?_
  refine kr_topi (law_xs (by omega)) ?_
  refine lv_aload_n hx hb dL_law_259 rfl (lv_at hl 0 rfl) ?_
  refine lv_iload_n hx hb dL_law_260 rfl (lv_at hl 3 rfl) ?_
  refine lv_iconst (v := 2) hx hb dL_law_261 (by decide) ?_
  refine lv_iadd hx hb dL_law_262 ?_
  refine kr_topi (law_t2 i) ?_
  refine va_sld hx hb hX hbl hbA hS (vin (n := i + 2) (N := L) (by omega) (by omega)) dL_law_263 ?_
  refine kr_topi (law_xs (by omega)) ?_
  refine law_Vi (As := [.int (xs (i + 1)), .int (xs (i + 2))]) (rest := []) ⟨hx, hb, hml, hown, hts⟩ (c_xLetter l D gc adC ln iv lv (xs (i + 1)) t p1 (xs (i + 2)) n kx p3 p4) (cwV 2 hts (goodV (fun _ h => lwt h) tw_381 tw_382 tw_383 tw_1 tw_384) rfl rfl rfl (by decide +kernel) ⟨Nat.le_of_ble_eq_true rfl, Nat.le_of_ble_eq_true rfl⟩) (recv_k hK hP) hK hP hD hS hA nd_a nd_c rfl hl.1 rfl (Nat.le_of_ble_eq_true rfl) dL_law_264 ⟨hc1, hc2⟩ (fun H locs hP hD hS => ?_)
  refine lv_aload_n hx hb dL_law_267 rfl (lv_at hl 2 rfl) ?_
  refine lv_aload_n hx hb dL_law_268 rfl (lv_at hl 0 rfl) ?_
  refine lv_iload_n hx hb dL_law_269 rfl (lv_at hl 3 rfl) ?_
  refine lv_iconst (v := 1) hx hb dL_law_270 (by decide) ?_
  refine lv_iadd hx hb dL_law_271 ?_
  refine kr_topi (law_t1 i) ?_
  refine va_sld hx hb hX hbl hbA hS (vin (n := i + 1) (N := L) (by omega) (by omega)) dL_law_272 ?_
  refine kr_topi (law_xs (by omega)) ?_
  refine lv_aload_n hx hb dL_law_273 rfl (lv_at hl 0 rfl) ?_
  refine lv_iload_n hx hb dL_law_274 rfl (lv_at hl 3 rfl) ?_
  refine lv_iconst (v := 2) hx hb dL_law_275 (by decide) ?_
  refine lv_iadd hx hb dL_law_276 ?_
  refine kr_topi (law_t2 i) ?_
  refine va_sld hx hb hX hbl hbA hS (vin (n := i + 2) (N := L) (by omega) (by omega)) dL_law_277 ?_
  refine kr_topi (law_xs (by omega)) ?_
  refine law_Vi (As := [.int (xs (i + 1)), .int (xs (i + 2))]) (rest := [.int (r_xLetter iv (xs (i + 1)) t (xs (i + 2)) n kx)]) ⟨hx, hb, hml, hown, hts⟩ (c_oLetter l D gc adR lnR jv kv (xs (i + 1)) t p2 (xs (i + 2)) n p5 kx p6) (cwV 2 hts (goodV (fun _ h => lwt h) tw_757 tw_758 tw_759 tw_8 tw_760) rfl rfl rfl (by decide +kernel) ⟨Nat.le_of_ble_eq_true rfl, Nat.le_of_ble_eq_true rfl⟩) (recv_r hK hP) hK hP hD hS hA nd_b nd_d rfl hl.1 rfl (Nat.le_of_ble_eq_true rfl) dL_law_278 ⟨hc1, hc2⟩ (fun H locs hP hD hS => ?_)
  refine lv_icmp_eq (tgt := 448) hx hb dL_law_281 (by decide) (fun _ => ?_) (fun c1 => absurd heq c1)
  exact kk _ _ _ _ _ adC _ _ _ _ ⟨_, _, _, hJ1⟩ hR rfl hP hD hS
set_option maxHeartbeats 4000000 in
set_option maxRecDepth 100000 in
theorem law_c6 {p : Program} {l : Launch} {e : Env} {s : State} {m : MethodId} {below : List Frame} {meth : Method} {c : Code} {D : va_G} {gc : Nat → ClassId} {b L : Nat} {xs : Nat → Int32} (hL : L ≤ 2049) (C0 : lw_At p s m meth c b L xs) (hK : va_K D vwCl (kT gc) s) {i : Nat} (hi : i + 4 ≤ L) {ln : Nat → Nat} {iv : Nat → Nat → Int32} {lv : Nat → Nat → Int64} {jv : Nat → Nat → Int32} {kv : Nat → Nat → Int64} {adC adR lnR : Nat → Nat} {H : Heap} {locs : List Loc} {cells slots : Nat} (hJ : lawJ ln iv lv jv kv) (hR : lawP cells slots ln) (hP : va_P D vwCl (mW 42 (kE gc) (adC, ln, iv, lv) ++ mW 20 (rE gc) (adR, lnR, jv, kv)) H) (hD : va_D (fun q : Nat => s.heap.size ≤ q) (mW 42 (kE gc) (adC, ln, iv, lv) ++ mW 20 (rE gc) (adR, lnR, jv, kv))) (hS : va_S (fun q : Nat => s.heap.size ≤ q) s.heap H locs) {ls : Array Slot} (hl : lv_has ls 4 [(0, .ref b), (1, .ref (adC 0)), (2, .ref (adR 0)), (3, .int (nI i))]) (kk : lawK p l e s m b below meth c D gc adR lnR (adC 0) ls) : W p l e room_1 s m #[Value.ref b] below meth c H locs cells slots (lw_Z below #[Value.ref b] s) (F0 m 286 ls []) := by
  obtain ⟨hx, hb, hr, hml, hown, hts, hX, hbl, hlocks, hgv⟩ := C0
  have hA : ∀ q : Nat, s.heap.size ≤ q → (fun q : Nat => s.heap.size ≤ q) q := fun _ h => h
  have hbA : ¬ (fun q : Nat => s.heap.size ≤ q) b := Nat.not_le.mpr hbl
  obtain ⟨P9, a9, s9, hJ⟩ := hJ
  have htop := cA_top hR.2.2.1 hR.2.2.2
  have hc1 : cells ≤ 600000 := by have := hR.1; omega
  have hc2 : slots ≤ 7302250 := by have := hR.2.1; omega
  obtain ⟨mm, p1, p2, heq, hJ1⟩ := hJ.owner (xs (i + 1))
  refine lv_aload_n hx hb dL_law_286 rfl (lv_at hl 1 rfl) ?_
  refine lv_aload_n hx hb dL_law_287 rfl (lv_at hl 0 rfl) ?_
  refine lv_iload_n hx hb dL_law_288 rfl (lv_at hl 3 rfl) ?_
  refine lv_iconst (v := 1) hx hb dL_law_289 (by decide) ?_
  refine lv_iadd hx hb dL_law_290 ?_
  refine kr_topi (law_t1 i) ?_
  refine va_sld hx hb hX hbl hbA hS (vin (n := i + 1) (N := L) (by omega) (by omega)) dL_law_291 ?_
  refine kr_topi (law_xs (by omega)) ?_
  refine law_Vi (As := [.int (xs (i + 1))]) (rest := []) ⟨hx, hb, hml, hown, hts⟩ (c_xOwner l D gc adC ln iv lv (xs (i + 1)) mm p1) (cwV 1 hts (goodV (fun _ h => lwt h) tw_393 tw_394 tw_395 tw_1 tw_396) rfl rfl rfl (by decide +kernel) ⟨Nat.le_of_ble_eq_true rfl, Nat.le_of_ble_eq_true rfl⟩) (recv_k hK hP) hK hP hD hS hA nd_a nd_c rfl hl.1 rfl (Nat.le_of_ble_eq_true rfl) dL_law_292 ⟨hc1, hc2⟩ (fun H locs hP hD hS => ?_)
  refine lv_aload_n hx hb dL_law_295 rfl (lv_at hl 2 rfl) ?_
  refine lv_aload_n hx hb dL_law_296 rfl (lv_at hl 0 rfl) ?_
  refine lv_iload_n hx hb dL_law_297 rfl (lv_at hl 3 rfl) ?_
  refine lv_iconst (v := 1) hx hb dL_law_298 (by decide) ?_
  refine lv_iadd hx hb dL_law_299 ?_
  refine kr_topi (law_t1 i) ?_
  refine va_sld hx hb hX hbl hbA hS (vin (n := i + 1) (N := L) (by omega) (by omega)) dL_law_300 ?_
  refine kr_topi (law_xs (by omega)) ?_
  refine law_Vi (As := [.int (xs (i + 1))]) (rest := [.int (r_xOwner iv (xs (i + 1)) mm)]) ⟨hx, hb, hml, hown, hts⟩ (c_oOwner l D gc adR lnR jv kv (xs (i + 1)) mm p2) (cwV 1 hts (goodV (fun _ h => lwt h) tw_761 tw_762 tw_763 tw_8 tw_764) rfl rfl rfl (by decide +kernel) ⟨Nat.le_of_ble_eq_true rfl, Nat.le_of_ble_eq_true rfl⟩) (recv_r hK hP) hK hP hD hS hA nd_b nd_d rfl hl.1 rfl (Nat.le_of_ble_eq_true rfl) dL_law_301 ⟨hc1, hc2⟩ (fun H locs hP hD hS => ?_)
  refine lv_icmp_eq (tgt := 448) hx hb dL_law_304 (by decide) (fun _ => ?_) (fun c1 => absurd heq c1)
  exact kk _ _ _ _ _ adC _ _ _ _ ⟨_, _, _, hJ1⟩ hR rfl hP hD hS
set_option maxHeartbeats 4000000 in
set_option maxRecDepth 100000 in
theorem law_c7 {p : Program} {l : Launch} {e : Env} {s : State} {m : MethodId} {below : List Frame} {meth : Method} {c : Code} {D : va_G} {gc : Nat → ClassId} {b L : Nat} {xs : Nat → Int32} (hL : L ≤ 2049) (C0 : lw_At p s m meth c b L xs) (hK : va_K D vwCl (kT gc) s) {i : Nat} (hi : i + 4 ≤ L) {ln : Nat → Nat} {iv : Nat → Nat → Int32} {lv : Nat → Nat → Int64} {jv : Nat → Nat → Int32} {kv : Nat → Nat → Int64} {adC adR lnR : Nat → Nat} {H : Heap} {locs : List Loc} {cells slots : Nat} (hJ : lawJ ln iv lv jv kv) (hR : lawP cells slots ln) (hP : va_P D vwCl (mW 42 (kE gc) (adC, ln, iv, lv) ++ mW 20 (rE gc) (adR, lnR, jv, kv)) H) (hD : va_D (fun q : Nat => s.heap.size ≤ q) (mW 42 (kE gc) (adC, ln, iv, lv) ++ mW 20 (rE gc) (adR, lnR, jv, kv))) (hS : va_S (fun q : Nat => s.heap.size ≤ q) s.heap H locs) {ls : Array Slot} (hl : lv_has ls 4 [(0, .ref b), (1, .ref (adC 0)), (2, .ref (adR 0)), (3, .int (nI i))]) (kk : lawK p l e s m b below meth c D gc adR lnR (adC 0) ls) : W p l e room_1 s m #[Value.ref b] below meth c H locs cells slots (lw_Z below #[Value.ref b] s) (F0 m 309 ls []) := by
  obtain ⟨hx, hb, hr, hml, hown, hts, hX, hbl, hlocks, hgv⟩ := C0
  have hA : ∀ q : Nat, s.heap.size ≤ q → (fun q : Nat => s.heap.size ≤ q) q := fun _ h => h
  have hbA : ¬ (fun q : Nat => s.heap.size ≤ q) b := Nat.not_le.mpr hbl
  obtain ⟨P9, a9, s9, hJ⟩ := hJ
  have htop := cA_top hR.2.2.1 hR.2.2.2
  have hc1 : cells ≤ 600000 := by have := hR.1; omega
  have hc2 : slots ≤ 7302250 := by have := hR.2.1; omega
  obtain ⟨mm, p1, p2, heq, hJ1⟩ := hJ.held (xs (i + 1))
  refine lv_aload_n hx hb dL_law_309 rfl (lv_at hl 1 rfl) ?_
  refine lv_aload_n hx hb dL_law_310 rfl (lv_at hl 0 rfl) ?_
  refine lv_iload_n hx hb dL_law_311 rfl (lv_at hl 3 rfl) ?_
  refine lv_iconst (v := 1) hx hb dL_law_312 (by decide) ?_
  refine lv_iadd hx hb dL_law_313 ?_
  refine kr_topi (law_t1 i) ?_
  refine va_sld hx hb hX hbl hbA hS (vin (n := i + 1) (N := L) (by omega) (by omega)) dL_law_314 ?_
  refine kr_topi (law_xs (by omega)) ?_
  refine law_Vi (As := [.int (xs (i + 1))]) (rest := []) ⟨hx, hb, hml, hown, hts⟩ (c_xHeld l D gc adC ln iv lv (xs (i + 1)) mm p1) (cwV 1 hts (goodV (fun _ h => lwt h) tw_398 tw_399 tw_400 tw_1 tw_401) rfl rfl rfl (by decide +kernel) ⟨Nat.le_of_ble_eq_true rfl, Nat.le_of_ble_eq_true rfl⟩) (recv_k hK hP) hK hP hD hS hA nd_a nd_c rfl hl.1 rfl (Nat.le_of_ble_eq_true rfl) dL_law_315 ⟨hc1, hc2⟩ (fun H locs hP hD hS => ?_)
  refine lv_aload_n hx hb dL_law_318 rfl (lv_at hl 2 rfl) ?_
  refine lv_aload_n hx hb dL_law_319 rfl (lv_at hl 0 rfl) ?_
  refine lv_iload_n hx hb dL_law_320 rfl (lv_at hl 3 rfl) ?_
  refine lv_iconst (v := 1) hx hb dL_law_321 (by decide) ?_
  refine lv_iadd hx hb dL_law_322 ?_
  refine kr_topi (law_t1 i) ?_
  refine va_sld hx hb hX hbl hbA hS (vin (n := i + 1) (N := L) (by omega) (by omega)) dL_law_323 ?_
  refine kr_topi (law_xs (by omega)) ?_
  refine law_Vi (As := [.int (xs (i + 1))]) (rest := [.int (r_xHeld iv (xs (i + 1)) mm)]) ⟨hx, hb, hml, hown, hts⟩ (c_oHeld l D gc adR lnR jv kv (xs (i + 1)) mm p2) (cwV 1 hts (goodV (fun _ h => lwt h) tw_765 tw_766 tw_767 tw_8 tw_768) rfl rfl rfl (by decide +kernel) ⟨Nat.le_of_ble_eq_true rfl, Nat.le_of_ble_eq_true rfl⟩) (recv_r hK hP) hK hP hD hS hA nd_b nd_d rfl hl.1 rfl (Nat.le_of_ble_eq_true rfl) dL_law_324 ⟨hc1, hc2⟩ (fun H locs hP hD hS => ?_)
  refine lv_icmp_eq (tgt := 448) hx hb dL_law_327 (by decide) (fun _ => ?_) (fun c1 => absurd heq c1)
  exact kk _ _ _ _ _ adC _ _ _ _ ⟨_, _, _, hJ1⟩ hR rfl hP hD hS
set_option maxHeartbeats 4000000 in
set_option maxRecDepth 100000 in
theorem law_c8 {p : Program} {l : Launch} {e : Env} {s : State} {m : MethodId} {below : List Frame} {meth : Method} {c : Code} {D : va_G} {gc : Nat → ClassId} {b L : Nat} {xs : Nat → Int32} (hL : L ≤ 2049) (C0 : lw_At p s m meth c b L xs) (hK : va_K D vwCl (kT gc) s) {i : Nat} (hi : i + 4 ≤ L) {ln : Nat → Nat} {iv : Nat → Nat → Int32} {lv : Nat → Nat → Int64} {jv : Nat → Nat → Int32} {kv : Nat → Nat → Int64} {adC adR lnR : Nat → Nat} {H : Heap} {locs : List Loc} {cells slots : Nat} (hJ : lawJ ln iv lv jv kv) (hR : lawP cells slots ln) (hP : va_P D vwCl (mW 42 (kE gc) (adC, ln, iv, lv) ++ mW 20 (rE gc) (adR, lnR, jv, kv)) H) (hD : va_D (fun q : Nat => s.heap.size ≤ q) (mW 42 (kE gc) (adC, ln, iv, lv) ++ mW 20 (rE gc) (adR, lnR, jv, kv))) (hS : va_S (fun q : Nat => s.heap.size ≤ q) s.heap H locs) {ls : Array Slot} (hl : lv_has ls 4 [(0, .ref b), (1, .ref (adC 0)), (2, .ref (adR 0)), (3, .int (nI i))]) (kk : lawK p l e s m b below meth c D gc adR lnR (adC 0) ls) : W p l e room_1 s m #[Value.ref b] below meth c H locs cells slots (lw_Z below #[Value.ref b] s) (F0 m 332 ls []) := by
  obtain ⟨hx, hb, hr, hml, hown, hts, hX, hbl, hlocks, hgv⟩ := C0
  have hA : ∀ q : Nat, s.heap.size ≤ q → (fun q : Nat => s.heap.size ≤ q) q := fun _ h => h
  have hbA : ¬ (fun q : Nat => s.heap.size ≤ q) b := Nat.not_le.mpr hbl
  obtain ⟨P9, a9, s9, hJ⟩ := hJ
  have htop := cA_top hR.2.2.1 hR.2.2.2
  have hc1 : cells ≤ 600000 := by have := hR.1; omega
  have hc2 : slots ≤ 7302250 := by have := hR.2.1; omega
  obtain ⟨mm, sz, kx, p1, p2, p3, p4, p5, heq, hJ1⟩ := hJ.inSet (xs (i + 1)) (xs (i + 2))
  refine lv_aload_n hx hb dL_law_332 rfl (lv_at hl 1 rfl) ?_
  refine lv_aload_n hx hb dL_law_333 rfl (lv_at hl 0 rfl) ?_
  refine lv_iload_n hx hb dL_law_334 rfl (lv_at hl 3 rfl) ?_
  refine lv_iconst (v := 1) hx hb dL_law_335 (by decide) ?_
  refine lv_iadd hx hb dL_law_336 ?_
  refine kr_topi (law_t1 i) ?_
  refine va_sld hx hb hX hbl hbA hS (vin (n := i + 1) (N := L) (by omega) (by omega)) dL_law_337 ?_
  refine kr_topi (law_xs (by omega)) ?_
  refine lv_aload_n hx hb dL_law_338 rfl (lv_at hl 0 rfl) ?_
  refine lv_iload_n hx hb dL_law_339 rfl (lv_at hl 3 rfl) ?_
  refine lv_iconst (v := 2) hx hb dL_law_340 (by decide) ?_
  refine lv_iadd hx hb dL_law_341 ?_
  refine kr_topi (law_t2 i) ?_
  refine va_sld hx hb hX hbl hbA hS (vin (n := i + 2) (N := L) (by omega) (by omega)) dL_law_342 ?_
  refine kr_topi (law_xs (by omega)) ?_
  refine law_Vi (As := [.int (xs (i + 1)), .int (xs (i + 2))]) (rest := []) ⟨hx, hb, hml, hown, hts⟩ (c_xInSet l D gc adC ln iv lv (xs (i + 1)) mm p1 (xs (i + 2)) sz p3 p4) (cwV 2 hts (goodV (fun _ h => lwt h) tw_402 tw_403 tw_404 tw_1 tw_405) rfl rfl rfl (by decide +kernel) ⟨Nat.le_of_ble_eq_true rfl, Nat.le_of_ble_eq_true rfl⟩) (recv_k hK hP) hK hP hD hS hA nd_a nd_c rfl hl.1 rfl (Nat.le_of_ble_eq_true rfl) dL_law_343 ⟨hc1, hc2⟩ (fun H locs hP hD hS => ?_)
  refine lv_aload_n hx hb dL_law_346 rfl (lv_at hl 2 rfl) ?_
  refine lv_aload_n hx hb dL_law_347 rfl (lv_at hl 0 rfl) ?_
  refine lv_iload_n hx hb dL_law_348 rfl (lv_at hl 3 rfl) ?_
  refine lv_iconst (v := 1) hx hb dL_law_349 (by decide) ?_
  refine lv_iadd hx hb dL_law_350 ?_
  refine kr_topi (law_t1 i) ?_
  refine va_sld hx hb hX hbl hbA hS (vin (n := i + 1) (N := L) (by omega) (by omega)) dL_law_351 ?_
  refine kr_topi (law_xs (by omega)) ?_
  refine lv_aload_n hx hb dL_law_352 rfl (lv_at hl 0 rfl) ?_
  refine lv_iload_n hx hb dL_law_353 rfl (lv_at hl 3 rfl) ?_
  refine lv_iconst (v := 2) hx hb dL_law_354 (by decide) ?_
  refine lv_iadd hx hb dL_law_355 ?_
  refine kr_topi (law_t2 i) ?_
  refine va_sld hx hb hX hbl hbA hS (vin (n := i + 2) (N := L) (by omega) (by omega)) dL_law_356 ?_
  refine kr_topi (law_xs (by omega)) ?_
  refine law_Vi (As := [.int (xs (i + 1)), .int (xs (i + 2))]) (rest := [.int (r_xInSet iv (xs (i + 1)) mm (xs (i + 2)))]) ⟨hx, hb, hml, hown, hts⟩ (c_oInSet l D gc adR lnR jv kv (xs (i + 1)) mm p2 (xs (i + 2)) kx p5) (cwV 2 hts (goodV (fun _ h => lwt h) tw_769 tw_770 tw_771 tw_8 tw_772) rfl rfl rfl (by decide +kernel) ⟨Nat.le_of_ble_eq_true rfl, Nat.le_of_ble_eq_true rfl⟩) (recv_r hK hP) hK hP hD hS hA nd_b nd_d rfl hl.1 rfl (Nat.le_of_ble_eq_true rfl) dL_law_357 ⟨hc1, hc2⟩ (fun H locs hP hD hS => ?_)
  refine lv_icmp_eq (tgt := 448) hx hb dL_law_360 (by decide) (fun _ => ?_) (fun c1 => absurd heq c1)
  exact kk _ _ _ _ _ adC _ _ _ _ ⟨_, _, _, hJ1⟩ hR rfl hP hD hS
set_option maxHeartbeats 4000000 in
set_option maxRecDepth 100000 in
theorem law_c10 {p : Program} {l : Launch} {e : Env} {s : State} {m : MethodId} {below : List Frame} {meth : Method} {c : Code} {D : va_G} {gc : Nat → ClassId} {b L : Nat} {xs : Nat → Int32} (hL : L ≤ 2049) (C0 : lw_At p s m meth c b L xs) (hK : va_K D vwCl (kT gc) s) {i : Nat} (hi : i + 4 ≤ L) {ln : Nat → Nat} {iv : Nat → Nat → Int32} {lv : Nat → Nat → Int64} {jv : Nat → Nat → Int32} {kv : Nat → Nat → Int64} {adC adR lnR : Nat → Nat} {H : Heap} {locs : List Loc} {cells slots : Nat} (hJ : lawJ ln iv lv jv kv) (hR : lawP cells slots ln) (hP : va_P D vwCl (mW 42 (kE gc) (adC, ln, iv, lv) ++ mW 20 (rE gc) (adR, lnR, jv, kv)) H) (hD : va_D (fun q : Nat => s.heap.size ≤ q) (mW 42 (kE gc) (adC, ln, iv, lv) ++ mW 20 (rE gc) (adR, lnR, jv, kv))) (hS : va_S (fun q : Nat => s.heap.size ≤ q) s.heap H locs) {ls : Array Slot} (hl : lv_has ls 4 [(0, .ref b), (1, .ref (adC 0)), (2, .ref (adR 0)), (3, .int (nI i))]) (kk : lawK p l e s m b below meth c D gc adR lnR (adC 0) ls) : W p l e room_1 s m #[Value.ref b] below meth c H locs cells slots (lw_Z below #[Value.ref b] s) (F0 m 378 ls []) := by
  obtain ⟨hx, hb, hr, hml, hown, hts, hX, hbl, hlocks, hgv⟩ := C0
  have hA : ∀ q : Nat, s.heap.size ≤ q → (fun q : Nat => s.heap.size ≤ q) q := fun _ h => h
  have hbA : ¬ (fun q : Nat => s.heap.size ≤ q) b := Nat.not_le.mpr hbl
  obtain ⟨P9, a9, s9, hJ⟩ := hJ
  have htop := cA_top hR.2.2.1 hR.2.2.2
  have hc1 : cells ≤ 600000 := by have := hR.1; omega
  have hc2 : slots ≤ 7302250 := by have := hR.2.1; omega
  obtain ⟨kx, h31, p1, p2, heq⟩ := hJ.outcome (xs (i + 1))
  refine lv_aload_n hx hb dL_law_378 rfl (lv_at hl 1 rfl) ?_
  refine lv_aload_n hx hb dL_law_379 rfl (lv_at hl 0 rfl) ?_
  refine lv_iload_n hx hb dL_law_380 rfl (lv_at hl 3 rfl) ?_
  refine lv_iconst (v := 1) hx hb dL_law_381 (by decide) ?_
  refine lv_iadd hx hb dL_law_382 ?_
  refine kr_topi (law_t1 i) ?_
  refine va_sld hx hb hX hbl hbA hS (vin (n := i + 1) (N := L) (by omega) (by omega)) dL_law_383 ?_
  refine kr_topi (law_xs (by omega)) ?_
  refine law_Vl (As := [.int (xs (i + 1))]) (rest := []) ⟨hx, hb, hml, hown, hts⟩ (c_xOutcome l D gc adC ln iv lv (xs (i + 1)) kx h31 p1) (cwV 1 hts (goodV (fun _ h => lwt h) tw_530 tw_531 tw_532 tw_1 tw_533) rfl rfl rfl (by decide +kernel) ⟨Nat.le_of_ble_eq_true rfl, Nat.le_of_ble_eq_true rfl⟩) (recv_k hK hP) hK hP hD hS hA nd_a nd_c rfl hl.1 rfl (Nat.le_of_ble_eq_true rfl) dL_law_384 ⟨hc1, hc2⟩ (fun H locs hP hD hS => ?_)
  refine lv_aload_n hx hb dL_law_387 rfl (lv_at hl 2 rfl) ?_
  refine lv_aload_n hx hb dL_law_388 rfl (lv_at hl 0 rfl) ?_
  refine lv_iload_n hx hb dL_law_389 rfl (lv_at hl 3 rfl) ?_
  refine lv_iconst (v := 1) hx hb dL_law_390 (by decide) ?_
  refine lv_iadd hx hb dL_law_391 ?_
  refine kr_topi (law_t1 i) ?_
  refine va_sld hx hb hX hbl hbA hS (vin (n := i + 1) (N := L) (by omega) (by omega)) dL_law_392 ?_
  refine kr_topi (law_xs (by omega)) ?_
  refine law_Vl (As := [.int (xs (i + 1))]) (rest := [.long (r_xOutcome iv lv (xs (i + 1)) kx)]) ⟨hx, hb, hml, hown, hts⟩ (c_oOutcome l D gc adR lnR jv kv (xs (i + 1)) kx p2) (cwV 1 hts (goodV (fun _ h => lwt h) tw_790 tw_791 tw_792 tw_8 tw_793) rfl rfl rfl (by decide +kernel) ⟨Nat.le_of_ble_eq_true rfl, Nat.le_of_ble_eq_true rfl⟩) (recv_r hK hP) hK hP hD hS hA nd_b nd_d rfl hl.1 rfl (Nat.le_of_ble_eq_true rfl) dL_law_393 ⟨hc1, hc2⟩ (fun H locs hP hD hS => ?_)
  refine W.lcmp hx hb dL_law_396 ?_
  refine lv_if_eq (tgt := 448) hx hb dL_law_397 (by decide) (fun _ => ?_) (fun c1 => absurd ((lg_cmp_eq _ _).mpr heq) c1)
  exact kk _ _ _ _ _ adC _ _ _ _ ⟨_, _, _, hJ⟩ hR rfl hP hD hS
set_option maxHeartbeats 4000000 in
set_option maxRecDepth 100000 in
theorem law_c11 {p : Program} {l : Launch} {e : Env} {s : State} {m : MethodId} {below : List Frame} {meth : Method} {c : Code} {D : va_G} {gc : Nat → ClassId} {b L : Nat} {xs : Nat → Int32} (hL : L ≤ 2049) (C0 : lw_At p s m meth c b L xs) (hK : va_K D vwCl (kT gc) s) {i : Nat} (hi : i + 4 ≤ L) {ln : Nat → Nat} {iv : Nat → Nat → Int32} {lv : Nat → Nat → Int64} {jv : Nat → Nat → Int32} {kv : Nat → Nat → Int64} {adC adR lnR : Nat → Nat} {H : Heap} {locs : List Loc} {cells slots : Nat} (hJ : lawJ ln iv lv jv kv) (hR : lawP cells slots ln) (hP : va_P D vwCl (mW 42 (kE gc) (adC, ln, iv, lv) ++ mW 20 (rE gc) (adR, lnR, jv, kv)) H) (hD : va_D (fun q : Nat => s.heap.size ≤ q) (mW 42 (kE gc) (adC, ln, iv, lv) ++ mW 20 (rE gc) (adR, lnR, jv, kv))) (hS : va_S (fun q : Nat => s.heap.size ≤ q) s.heap H locs) {ls : Array Slot} (hl : lv_has ls 4 [(0, .ref b), (1, .ref (adC 0)), (2, .ref (adR 0)), (3, .int (nI i))]) (kk : lawK p l e s m b below meth c D gc adR lnR (adC 0) ls) : W p l e room_1 s m #[Value.ref b] below meth c H locs cells slots (lw_Z below #[Value.ref b] s) (F0 m 402 ls []) := by
  obtain ⟨hx, hb, hr, hml, hown, hts, hX, hbl, hlocks, hgv⟩ := C0
  have hA : ∀ q : Nat, s.heap.size ≤ q → (fun q : Nat => s.heap.size ≤ q) q := fun _ h => h
  have hbA : ¬ (fun q : Nat => s.heap.size ≤ q) b := Nat.not_le.mpr hbl
  obtain ⟨P9, a9, s9, hJ⟩ := hJ
  have htop := cA_top hR.2.2.1 hR.2.2.2
  have hc1 : cells ≤ 600000 := by have := hR.1; omega
  have hc2 : slots ≤ 7302250 := by have := hR.2.1; omega
  obtain ⟨t, p1, p2, heq⟩ := hJ.block (xs (i + 1))
  refine lv_aload_n hx hb dL_law_402 rfl (lv_at hl 1 rfl) ?_
  refine lv_aload_n hx hb dL_law_403 rfl (lv_at hl 0 rfl) ?_
  refine lv_iload_n hx hb dL_law_404 rfl (lv_at hl 3 rfl) ?_
  refine lv_iconst (v := 1) hx hb dL_law_405 (by decide) ?_
  refine lv_iadd hx hb dL_law_406 ?_
  refine kr_topi (law_t1 i) ?_
  refine va_sld hx hb hX hbl hbA hS (vin (n := i + 1) (N := L) (by omega) (by omega)) dL_law_407 ?_
  refine kr_topi (law_xs (by omega)) ?_
  refine law_Vi (As := [.int (xs (i + 1))]) (rest := []) ⟨hx, hb, hml, hown, hts⟩ (c_xBlock l D gc adC ln iv lv (xs (i + 1)) t p1) (cwV 1 hts (goodV (fun _ h => lwt h) tw_539 tw_540 tw_541 tw_1 tw_542) rfl rfl rfl (by decide +kernel) ⟨Nat.le_of_ble_eq_true rfl, Nat.le_of_ble_eq_true rfl⟩) (recv_k hK hP) hK hP hD hS hA nd_a nd_c rfl hl.1 rfl (Nat.le_of_ble_eq_true rfl) dL_law_408 ⟨hc1, hc2⟩ (fun H locs hP hD hS => ?_)
  refine lv_aload_n hx hb dL_law_411 rfl (lv_at hl 2 rfl) ?_
  refine lv_aload_n hx hb dL_law_412 rfl (lv_at hl 0 rfl) ?_
  refine lv_iload_n hx hb dL_law_413 rfl (lv_at hl 3 rfl) ?_
  refine lv_iconst (v := 1) hx hb dL_law_414 (by decide) ?_
  refine lv_iadd hx hb dL_law_415 ?_
  refine kr_topi (law_t1 i) ?_
  refine va_sld hx hb hX hbl hbA hS (vin (n := i + 1) (N := L) (by omega) (by omega)) dL_law_416 ?_
  refine kr_topi (law_xs (by omega)) ?_
  refine law_Vi (As := [.int (xs (i + 1))]) (rest := [.int (r_xBlock iv (xs (i + 1)) t)]) ⟨hx, hb, hml, hown, hts⟩ (c_oBlock l D gc adR lnR jv kv (xs (i + 1)) t p2) (cwV 1 hts (goodV (fun _ h => lwt h) tw_795 tw_796 tw_797 tw_8 tw_798) rfl rfl rfl (by decide +kernel) ⟨Nat.le_of_ble_eq_true rfl, Nat.le_of_ble_eq_true rfl⟩) (recv_r hK hP) hK hP hD hS hA nd_b nd_d rfl hl.1 rfl (Nat.le_of_ble_eq_true rfl) dL_law_417 ⟨hc1, hc2⟩ (fun H locs hP hD hS => ?_)
  refine lv_icmp_eq (tgt := 448) hx hb dL_law_420 (by decide) (fun _ => ?_) (fun c1 => absurd heq c1)
  exact kk _ _ _ _ _ adC _ _ _ _ ⟨_, _, _, hJ⟩ hR rfl hP hD hS
set_option maxHeartbeats 4000000 in
set_option maxRecDepth 100000 in
theorem law_c12 {p : Program} {l : Launch} {e : Env} {s : State} {m : MethodId} {below : List Frame} {meth : Method} {c : Code} {D : va_G} {gc : Nat → ClassId} {b L : Nat} {xs : Nat → Int32} (hL : L ≤ 2049) (C0 : lw_At p s m meth c b L xs) (hK : va_K D vwCl (kT gc) s) {i : Nat} (hi : i + 4 ≤ L) {ln : Nat → Nat} {iv : Nat → Nat → Int32} {lv : Nat → Nat → Int64} {jv : Nat → Nat → Int32} {kv : Nat → Nat → Int64} {adC adR lnR : Nat → Nat} {H : Heap} {locs : List Loc} {cells slots : Nat} (hJ : lawJ ln iv lv jv kv) (hR : lawP cells slots ln) (hP : va_P D vwCl (mW 42 (kE gc) (adC, ln, iv, lv) ++ mW 20 (rE gc) (adR, lnR, jv, kv)) H) (hD : va_D (fun q : Nat => s.heap.size ≤ q) (mW 42 (kE gc) (adC, ln, iv, lv) ++ mW 20 (rE gc) (adR, lnR, jv, kv))) (hS : va_S (fun q : Nat => s.heap.size ≤ q) s.heap H locs) {ls : Array Slot} (hl : lv_has ls 4 [(0, .ref b), (1, .ref (adC 0)), (2, .ref (adR 0)), (3, .int (nI i))]) (kk : lawK p l e s m b below meth c D gc adR lnR (adC 0) ls) : W p l e room_1 s m #[Value.ref b] below meth c H locs cells slots (lw_Z below #[Value.ref b] s) (F0 m 425 ls []) := by
  obtain ⟨hx, hb, hr, hml, hown, hts, hX, hbl, hlocks, hgv⟩ := C0
  have hA : ∀ q : Nat, s.heap.size ≤ q → (fun q : Nat => s.heap.size ≤ q) q := fun _ h => h
  have hbA : ¬ (fun q : Nat => s.heap.size ≤ q) b := Nat.not_le.mpr hbl
  obtain ⟨P9, a9, s9, hJ⟩ := hJ
  have htop := cA_top hR.2.2.1 hR.2.2.2
  have hc1 : cells ≤ 600000 := by have := hR.1; omega
  have hc2 : slots ≤ 7302250 := by have := hR.2.1; omega
  have heq := hJ.count (xs (i + 1))
  refine lv_aload_n hx hb dL_law_425 rfl (lv_at hl 1 rfl) ?_
  refine lv_aload_n hx hb dL_law_426 rfl (lv_at hl 0 rfl) ?_
  refine lv_iload_n hx hb dL_law_427 rfl (lv_at hl 3 rfl) ?_
  refine lv_iconst (v := 1) hx hb dL_law_428 (by decide) ?_
  refine lv_iadd hx hb dL_law_429 ?_
  refine kr_topi (law_t1 i) ?_
  refine va_sld hx hb hX hbl hbA hS (vin (n := i + 1) (N := L) (by omega) (by omega)) dL_law_430 ?_
  refine kr_topi (law_xs (by omega)) ?_
  refine law_Vi (As := [.int (xs (i + 1))]) (rest := []) ⟨hx, hb, hml, hown, hts⟩ (c_xCount l D gc adC ln iv lv (xs (i + 1))) (cwV 1 hts (goodV (fun _ h => lwt h) tw_543 tw_544 tw_545 tw_1 tw_546) rfl rfl rfl (by decide +kernel) ⟨Nat.le_of_ble_eq_true rfl, Nat.le_of_ble_eq_true rfl⟩) (recv_k hK hP) hK hP hD hS hA nd_a nd_c rfl hl.1 rfl (Nat.le_of_ble_eq_true rfl) dL_law_431 ⟨hc1, hc2⟩ (fun H locs hP hD hS => ?_)
  refine lv_aload_n hx hb dL_law_434 rfl (lv_at hl 2 rfl) ?_
  refine lv_aload_n hx hb dL_law_435 rfl (lv_at hl 0 rfl) ?_
  refine lv_iload_n hx hb dL_law_436 rfl (lv_at hl 3 rfl) ?_
  refine lv_iconst (v := 1) hx hb dL_law_437 (by decide) ?_
  refine lv_iadd hx hb dL_law_438 ?_
  refine kr_topi (law_t1 i) ?_
  refine va_sld hx hb hX hbl hbA hS (vin (n := i + 1) (N := L) (by omega) (by omega)) dL_law_439 ?_
  refine kr_topi (law_xs (by omega)) ?_
  refine law_Vi (As := [.int (xs (i + 1))]) (rest := [.int (r_xCount iv (xs (i + 1)))]) ⟨hx, hb, hml, hown, hts⟩ (c_oCount l D gc adR lnR jv kv (xs (i + 1))) (cwV 1 hts (goodV (fun _ h => lwt h) tw_799 tw_800 tw_801 tw_8 tw_802) rfl rfl rfl (by decide +kernel) ⟨Nat.le_of_ble_eq_true rfl, Nat.le_of_ble_eq_true rfl⟩) (recv_r hK hP) hK hP hD hS hA nd_b nd_d rfl hl.1 rfl (Nat.le_of_ble_eq_true rfl) dL_law_440 ⟨hc1, hc2⟩ (fun H locs hP hD hS => ?_)
  refine lv_icmp_eq (tgt := 448) hx hb dL_law_443 (by decide) (fun _ => ?_) (fun c1 => absurd heq c1)
  exact kk _ _ _ _ _ adC _ _ _ _ ⟨_, _, _, hJ⟩ hR rfl hP hD hS
set_option maxHeartbeats 4000000 in
set_option maxRecDepth 100000 in
theorem law_c9 {p : Program} {l : Launch} {e : Env} {s : State} {m : MethodId} {below : List Frame} {meth : Method} {c : Code} {D : va_G} {gc : Nat → ClassId} {b L : Nat} {xs : Nat → Int32} (hL : L ≤ 2049) (C0 : lw_At p s m meth c b L xs) (hK : va_K D vwCl (kT gc) s) {i : Nat} (hi : i + 4 ≤ L) {ln : Nat → Nat} {iv : Nat → Nat → Int32} {lv : Nat → Nat → Int64} {jv : Nat → Nat → Int32} {kv : Nat → Nat → Int64} {adC adR lnR : Nat → Nat} {H : Heap} {locs : List Loc} {cells slots : Nat} (hJ : lawJ ln iv lv jv kv) (hR : lawP cells slots ln) (hP : va_P D vwCl (mW 42 (kE gc) (adC, ln, iv, lv) ++ mW 20 (rE gc) (adR, lnR, jv, kv)) H) (hD : va_D (fun q : Nat => s.heap.size ≤ q) (mW 42 (kE gc) (adC, ln, iv, lv) ++ mW 20 (rE gc) (adR, lnR, jv, kv))) (hS : va_S (fun q : Nat => s.heap.size ≤ q) s.heap H locs) {ls : Array Slot} (hl : lv_has ls 4 [(0, .ref b), (1, .ref (adC 0)), (2, .ref (adR 0)), (3, .int (nI i))]) (kk : lawK p l e s m b below meth c D gc adR lnR (adC 0) ls) : W p l e room_1 s m #[Value.ref b] below meth c H locs cells slots (lw_Z below #[Value.ref b] s) (F0 m 365 ls []) := by
  obtain ⟨hx, hb, hr, hml, hown, hts, hX, hbl, hlocks, hgv⟩ := C0
  have hA : ∀ q : Nat, s.heap.size ≤ q → (fun q : Nat => s.heap.size ≤ q) q := fun _ h => h
  have hbA : ¬ (fun q : Nat => s.heap.size ≤ q) b := Nat.not_le.mpr hbl
  obtain ⟨P9, a9, s9, hJ⟩ := hJ
  have htop := cA_top hR.2.2.1 hR.2.2.2
  have hc1 : cells ≤ 600000 := by have := hR.1; omega
  have hc2 : slots ≤ 7302250 := by have := hR.2.1; omega
  by_cases hd : iv 36 1 = 0
  · obtain ⟨Kf, J, hTh, hE, heq, hln, hXF, s1, hJ1⟩ := hJ.explore hd
    have hM := c_xExplore l D gc adC ln iv lv Kf J hTh hd
    rw [hln] at hM
    generalize hX9 : thM (ln, iv, lv) Kf J = X9 at hM heq hln hXF hJ1
    obtain ⟨ln1, iv1, lv1⟩ := X9
    have hmono := cA_mono (ln := ln) (ln' := ln1) hR.2.2.1 hXF.cap.e hR.2.2.2 hXF.cap.o hXF.le hXF.lo
    have htop1 := cA_top (ln := ln1) hXF.cap.e hXF.cap.o
    have hc3 : cells + (cA ln1 - cA ln) ≤ 100 + cA ln1 := by have := hR.1; omega
    have hc4 : slots + (sA ln1 - sA ln) ≤ 20000 + sA ln1 := by have := hR.2.1; omega
    have hc5 : cells + (cA ln1 - cA ln) ≤ 600000 := by omega
    have hc6 : slots + (sA ln1 - sA ln) ≤ 7302250 := by omega
    refine lv_aload_n hx hb dL_law_365 rfl (lv_at hl 1 rfl) ?_
    refine law_ViX (As := []) (rest := []) ⟨hx, hb, hml, hown, hts⟩ (hM) (cwV 0 hts (goodV (fun _ h => lwt h) tw_407 tw_408 tw_409 tw_1 tw_410) rfl rfl rfl (by decide +kernel) ⟨Nat.le_of_ble_eq_true rfl, Nat.le_of_ble_eq_true rfl⟩) (recv_k hK hP) hK hP hD hS hA nd_a nd_c rfl hl.1 rfl (Nat.le_of_ble_eq_true rfl) dL_law_366 ⟨hc5, hc6⟩ (fun ad1 H locs hag hP hD hS => ?_)
    refine lv_aload_n hx hb dL_law_369 rfl (lv_at hl 2 rfl) ?_
    refine law_Vi (As := []) (rest := [.int (iv1 36 2)]) ⟨hx, hb, hml, hown, hts⟩ (c_oExplore l D gc adR lnR jv kv J hE) (cwV 0 hts (goodV (fun _ h => lwt h) tw_773 tw_774 tw_775 tw_8 tw_776) rfl rfl rfl (by decide +kernel) ⟨Nat.le_of_ble_eq_true rfl, Nat.le_of_ble_eq_true rfl⟩) (recv_r hK hP) hK hP hD hS hA nd_b nd_d rfl hl.1 rfl (Nat.le_of_ble_eq_true rfl) dL_law_370 ⟨hc5, hc6⟩ (fun H locs hP hD hS => ?_)
    refine lv_icmp_eq (tgt := 448) hx hb dL_law_373 (by decide) (fun _ => ?_) (fun c1 => absurd heq c1)
    exact kk ln1 iv1 lv1 _ _ ad1 _ _ _ _ ⟨_, _, s1, hJ1⟩ ⟨hc3, hc4, hXF.cap.e, hXF.cap.o⟩ (hag 0 (by decide)) hP hD hS
  · obtain ⟨J, hE, heq, hJ1⟩ := hJ.exploreD hd
    refine lv_aload_n hx hb dL_law_365 rfl (lv_at hl 1 rfl) ?_
    refine law_Vi (As := []) (rest := []) ⟨hx, hb, hml, hown, hts⟩ (c_xExploreD l D gc adC ln iv lv hd) (cwV 0 hts (goodV (fun _ h => lwt h) tw_407 tw_408 tw_409 tw_1 tw_410) rfl rfl rfl (by decide +kernel) ⟨Nat.le_of_ble_eq_true rfl, Nat.le_of_ble_eq_true rfl⟩) (recv_k hK hP) hK hP hD hS hA nd_a nd_c rfl hl.1 rfl (Nat.le_of_ble_eq_true rfl) dL_law_366 ⟨hc1, hc2⟩ (fun H locs hP hD hS => ?_)
    refine lv_aload_n hx hb dL_law_369 rfl (lv_at hl 2 rfl) ?_
    refine law_Vi (As := []) (rest := [.int (iv 36 2)]) ⟨hx, hb, hml, hown, hts⟩ (c_oExplore l D gc adR lnR jv kv J hE) (cwV 0 hts (goodV (fun _ h => lwt h) tw_773 tw_774 tw_775 tw_8 tw_776) rfl rfl rfl (by decide +kernel) ⟨Nat.le_of_ble_eq_true rfl, Nat.le_of_ble_eq_true rfl⟩) (recv_r hK hP) hK hP hD hS hA nd_b nd_d rfl hl.1 rfl (Nat.le_of_ble_eq_true rfl) dL_law_370 ⟨hc1, hc2⟩ (fun H locs hP hD hS => ?_)
    refine lv_icmp_eq (tgt := 448) hx hb dL_law_373 (by decide) (fun _ => ?_) (fun c1 => absurd heq c1)
    exact kk _ _ _ _ _ adC _ _ _ _ ⟨_, _, _, hJ1⟩ hR rfl hP hD hS
