def divI : Nat → Int32 → Int32
  | 0, x => x
  | j + 1, x => divI j (x / 12)
theorem divI_s {i k : Nat} {x : Int32} (h : k < i) : divI (i - 1 - k) (x / 12) = divI (i - k) x := by
  rw [show i - k = (i - 1 - k) + 1 by omega]
  rfl
def r_wLetterAt (iv : Nat → Nat → Int32) (mi t : Nat) (k : Int32) (n kx : Nat) : Int32 := if k < 0 then -1 else if k < nI n then (divI (n - 1 - kx) (iv (20 + 4 * mi + t) 7) - divI (n - 1 - kx) (iv (20 + 4 * mi + t) 7) / 12 * 12) else -1
set_option maxHeartbeats 4000000 in
set_option maxRecDepth 100000 in
theorem c_wLetterAt (l : Launch) (D : va_G) (gc : Nat → ClassId) (ad ln : Nat → Nat) (iv : Nat → Nat → Int32) (lv : Nat → Nat → Int64) (mi t : Nat) (hmi : mi < 2) (ht : t < 4) (k : Int32) (n kx : Nat) (hn : r_wLetters iv mi t = nI n) (hn6 : n ≤ 6) (hkx : ¬ k < 0 → k < nI n → kx < n ∧ k = nI kx) : kMi l yX5_letterAt wX5_letterAt ({ frames := 1, cells := 0, slots := 0, locals := 22 }) D vwCl (kT gc) 42 (kE gc) [.ref (ad (20 + 4 * mi + t)), .int k] (ad, ln, iv, lv) (ad, ln, iv, lv) (r_wLetterAt iv mi t k n kx) := by
  refine ki_start (cc := cX5_letterAt) (maxL := 5) (ret := (some .int)) (by decide) rfl (Nat.le_of_ble_eq_true rfl) ?_
  intro p9 e9 s m9 below meth c9 A ls hx hb hr hts hown hlocks hml hA hK hP hD hS hl
  have hl : lv_has ls 5 [(0, .ref (ad (20 + 4 * mi + t))), (1, .int k)] := hl
  have hown : s.vm.findClass "MonitorWays$Worker" = some m9.cls := hown
  have hin_X5 : ∀ w ∈ u_ws "MonitorWays$Worker" TX5 8, w ∈ wX5_letterAt := fun w h => tcons (inX5 w h)
  have lk_f40 := hts _ (tcons tw_69)
  refine lv_aload_n hx hb dX5_letterAt_0 rfl (lv_at hl 0 rfl) ?_
  refine kr_callVi (As := []) (rest := []) ⟨hx, hb, hml, hown, hts⟩ (c_wLetters l D gc ad ln iv lv mi t hmi ht) (cwV 0 hts (goodV (fun _ h => tcons h) tw_389 tw_391 ts_15 tw_4 tw_392) rfl rfl rfl (by decide +kernel) ⟨Nat.le_of_ble_eq_true rfl, Nat.le_of_ble_eq_true rfl⟩) (kr_recv hK hP (20 + 4 * mi + t) (by omega) (E_wk (mi := mi) (t := t) hmi ht _ _ _ _) rfl) hK hP hD hS hA rfl hl.1 rfl (Nat.le_of_ble_eq_true rfl) dX5_letterAt_1 ⟨Nat.le_of_ble_eq_true rfl, Nat.le_of_ble_eq_true rfl⟩ (fun H locs hP hD hS => ?_)
  refine kr_topi (y := nI n) hn ?_
  refine lv_istore_n (lv' := [(2, .int (nI n)), (0, .ref (ad (20 + 4 * mi + t))), (1, .int k)]) hx hb dX5_letterAt_4 rfl hl (by decide) rfl (fun ls hl => ?_)
  refine lv_iload_n hx hb dX5_letterAt_5 rfl (lv_at hl 2 rfl) ?_
  refine lv_if_lt (tgt := 14) hx hb dX5_letterAt_6 (by decide) (fun c_1 => ?_) (fun c_1 => ?_)
  · refine lv_iconst (v := (-1)) hx hb dX5_letterAt_14 (by decide) ?_
    exact kr_iret hx hb hr hlocks hK hP hD hS (by unfold r_wLetterAt; rw [if_pos c_1]) rfl dX5_letterAt_15
  · refine lv_iload_n hx hb dX5_letterAt_9 rfl (lv_at hl 2 rfl) ?_
    refine lv_iload_n hx hb dX5_letterAt_10 rfl (lv_at hl 0 rfl) ?_
    refine lv_icmp_lt (tgt := 16) hx hb dX5_letterAt_11 (by decide) (fun c_2 => ?_) (fun c_2 => ?_)
    · obtain ⟨hkn, hkk⟩ := hkx c_1 c_2
      refine lv_aload_n hx hb dX5_letterAt_16 rfl (lv_at hl 1 rfl) ?_
      refine kr_get (C := "MonitorWays$Worker") (T := TX5) (N := 8) hx hb hts hin_X5 hown hK hP (20 + 4 * mi + t) (by omega) (E_wk (mi := mi) (t := t) hmi ht _ _ _ _) rfl 7 (by decide) lk_f40 (fun _ h9 => h9) rfl dX5_letterAt_17 ?_
      refine lv_istore_n (lv' := [(3, .int (iv (20 + 4 * mi + t) 7)), (2, .int (nI n)), (0, .ref (ad (20 + 4 * mi + t))), (1, .int k)]) hx hb dX5_letterAt_20 rfl hl (by decide) rfl (fun ls hl => ?_)
      refine lv_iload_n hx hb dX5_letterAt_21 rfl (lv_at hl 1 rfl) ?_
      refine lv_iconst (v := 1) hx hb dX5_letterAt_22 (by decide) ?_
      refine lv_isub hx hb dX5_letterAt_23 ?_
      refine kr_topi (y := nI (n - 1)) (pk_sub (a := n) (b := 1) (by omega)) ?_
      refine lv_istore (lv' := [(4, .int (nI (n - 1))), (3, .int (iv (20 + 4 * mi + t) 7)), (2, .int (nI n)), (0, .ref (ad (20 + 4 * mi + t))), (1, .int k)]) hx hb dX5_letterAt_24 hl (by decide) rfl (fun ls hl => ?_)
      refine kr_loop (σ := Nat × Int32) (fun z9 => match z9 with | (i, x) => i) (fun z9 H locs ls => match z9 with | (i, x) => (kx ≤ i ∧ i < n) ∧ (divI (i - kx) x = divI (n - 1 - kx) (iv (20 + 4 * mi + t) 7)) ∧ va_P D vwCl (mW 42 (kE gc) (ad, ln, iv, lv)) H ∧ va_D A (mW 42 (kE gc) (ad, ln, iv, lv)) ∧ va_S A s.heap H locs ∧ lv_has ls 5 [(1, .int k), (3, .int x), (4, .int (nI i))]) 26 (n - 1, (iv (20 + 4 * mi + t) 7)) ⟨⟨by omega, by omega⟩, rfl, hP, hD, hS, lv_sub hl [4, 1, 0] rfl⟩ ?_
      intro z9 H locs ls hI ih
      obtain ⟨i, x⟩ := z9
      obtain ⟨hi, heq, hP, hD, hS, hl⟩ := hI
      refine lv_iload hx hb dX5_letterAt_26 (lv_at hl 2 rfl) ?_
      refine lv_iload_n hx hb dX5_letterAt_28 rfl (lv_at hl 0 rfl) ?_
      refine kr_topi (y := nI kx) hkk ?_
      refine lv_icmp_le (tgt := 43) hx hb dX5_letterAt_29 (by decide) (fun c_3 => ?_) (fun c_3 => ?_)
      · have hie : kx = i := by have := (nI_leI (by omega) (by omega)).mp c_3; omega
        subst hie
        rw [Nat.sub_self, divI] at heq
        subst heq
        refine lv_iload_n hx hb dX5_letterAt_43 rfl (lv_at hl 1 rfl) ?_
        refine lv_bipush (v := 12) hx hb dX5_letterAt_44 (by decide) ?_
        refine lv_irem hx hb dX5_letterAt_46 (by decide) ?_
        exact kr_iret hx hb hr hlocks hK hP hD hS (by unfold r_wLetterAt; rw [if_neg c_1, if_pos c_2]) rfl dX5_letterAt_47
      · have hlt : kx < i := by rcases Nat.lt_or_ge kx i with h | h; exact h; exact absurd ((nI_leI (by omega) (by omega)).mpr h) c_3
        refine lv_iload_n hx hb dX5_letterAt_32 rfl (lv_at hl 1 rfl) ?_
        refine lv_bipush (v := 12) hx hb dX5_letterAt_33 (by decide) ?_
        refine lv_idiv hx hb dX5_letterAt_35 (by decide) ?_
        refine lv_istore_n (lv' := [(3, .int (x / 12)), (1, .int k), (4, .int (nI i))]) hx hb dX5_letterAt_36 rfl hl (by decide) rfl (fun ls hl => ?_)
        refine lv_iinc (v := nI (i - 1)) (lv' := [(4, .int (nI (i - 1))), (3, .int (x / 12)), (1, .int k)]) hx hb dX5_letterAt_37 hl (k := 2) rfl (sb_m1 (by omega)) (by decide) rfl (fun ls hl => ?_)
        refine lv_goto (tgt := 26) hx hb dX5_letterAt_40 (by decide) ?_
        exact ih (i - 1, x / 12) H locs ls ⟨⟨by omega, by omega⟩, (divI_s hlt).trans heq, hP, hD, hS, lv_sub hl [2, 1, 0] rfl⟩ (by show (i - 1) < i; omega)
    · refine lv_iconst (v := (-1)) hx hb dX5_letterAt_14 (by decide) ?_
      exact kr_iret hx hb hr hlocks hK hP hD hS (by unfold r_wLetterAt; rw [if_neg c_1, if_neg c_2]) rfl dX5_letterAt_15
def m_pAdd (iv : Nat → Nat → Int32) (t : Nat) (x a : Int32) (n : Nat) : Nat → Nat → Int32 := if 6 ≤ nI n then iv else (up2 (up2 (up2 iv (6 + t) n x) (10 + t) n a) (2 + t) 2 (nI (n + 1)))
set_option maxHeartbeats 4000000 in
set_option maxRecDepth 100000 in
theorem c_pAdd (l : Launch) (D : va_G) (gc : Nat → ClassId) (ad ln : Nat → Nat) (iv : Nat → Nat → Int32) (lv : Nat → Nat → Int64) (t : Nat) (ht : t < 4) (x a : Int32) (n : Nat) (hn : iv (2 + t) 2 = nI n) (hn6 : n ≤ 6) : kMv l yX2_add wX2_add ({ frames := 0, cells := 0, slots := 0, locals := 0 }) D vwCl (kT gc) 42 (kE gc) [.ref (ad (2 + t)), .int x, .int a] (ad, ln, iv, lv) (ad, ln, m_pAdd iv t x a n, lv) := by
  refine kv_start (cc := cX2_add) (maxL := 3) (by decide) rfl (Nat.le_of_ble_eq_true rfl) ?_
  intro p9 e9 s m9 below meth c9 A ls hx hb hr hts hown hlocks hml hA hK hP hD hS hl
  have hl : lv_has ls 3 [(0, .ref (ad (2 + t))), (1, .int x), (2, .int a)] := hl
  have hown : s.vm.findClass "MonitorWays$Program" = some m9.cls := hown
  have hin_X2 : ∀ w ∈ u_ws "MonitorWays$Program" TX2 3, w ∈ wX2_add := fun w h => tcons (inX2 w h)
  have lk_f18 := hts _ (tcons tw_31)
  have lk_f9 := hts _ (tcons tw_27)
  have lk_f15 := hts _ (tcons tw_29)
  refine lv_aload_n hx hb dX2_add_0 rfl (lv_at hl 0 rfl) ?_
  refine kr_get (C := "MonitorWays$Program") (T := TX2) (N := 3) hx hb hts hin_X2 hown hK hP (2 + t) (by omega) (E_prog ht _ _ _ _) rfl 2 (by decide) lk_f18 (fun _ h9 => h9) rfl dX2_add_1 ?_
  refine kr_topi (y := nI n) hn ?_
  refine lv_bipush (v := 6) hx hb dX2_add_4 (by decide) ?_
  refine lv_icmp_ge (tgt := 39) hx hb dX2_add_6 (by decide) (fun c_1 => ?_) (fun c_1 => ?_)
  · exact kr_vret hx hb hr hlocks hK hP hD hS (by unfold m_pAdd; rw [if_pos c_1]) dX2_add_39
  · refine lv_aload_n hx hb dX2_add_9 rfl (lv_at hl 0 rfl) ?_
    refine kr_get (C := "MonitorWays$Program") (T := TX2) (N := 3) hx hb hts hin_X2 hown hK hP (2 + t) (by omega) (E_prog ht _ _ _ _) rfl 0 (by decide) lk_f9 (fun _ h9 => h9) rfl dX2_add_10 ?_
    refine lv_aload_n hx hb dX2_add_13 rfl (lv_at hl 0 rfl) ?_
    refine kr_get (C := "MonitorWays$Program") (T := TX2) (N := 3) hx hb hts hin_X2 hown hK hP (2 + t) (by omega) (E_prog ht _ _ _ _) rfl 2 (by decide) lk_f18 (fun _ h9 => h9) rfl dX2_add_14 ?_
    refine kr_topi (y := nI n) hn ?_
    refine lv_iload_n hx hb dX2_add_17 rfl (lv_at hl 1 rfl) ?_
    refine kr_iastN hx hb hK hP hD hS (6 + t) 0 (by omega) (fun _ => E_acts ht _ _ _ _) rfl (j := n) (lt_of_nle (a := 6) (by decide) (by omega) c_1) (by decide) dX2_add_18 (fun H locs hP hD hS => ?_)
    refine lv_aload_n hx hb dX2_add_19 rfl (lv_at hl 0 rfl) ?_
    refine kr_get (C := "MonitorWays$Program") (T := TX2) (N := 3) hx hb hts hin_X2 hown hK hP (2 + t) (by omega) (E_prog ht _ _ _ _) rfl 1 (by decide) lk_f15 (fun _ h9 => h9) rfl dX2_add_20 ?_
    refine lv_aload_n hx hb dX2_add_23 rfl (lv_at hl 0 rfl) ?_
    refine kr_get (C := "MonitorWays$Program") (T := TX2) (N := 3) hx hb hts hin_X2 hown hK hP (2 + t) (by omega) (E_prog ht _ _ _ _) rfl 2 (by decide) lk_f18 (fun _ h9 => h9) rfl dX2_add_24 ?_
    refine kr_topi (y := nI n) ((up2_ne (by omega)).trans hn) ?_
    refine lv_iload_n hx hb dX2_add_27 rfl (lv_at hl 2 rfl) ?_
    refine kr_iastN hx hb hK hP hD hS (10 + t) 0 (by omega) (fun _ => E_opds ht _ _ _ _) rfl (j := n) (lt_of_nle (a := 6) (by decide) (by omega) c_1) (by decide) dX2_add_28 (fun H locs hP hD hS => ?_)
    refine lv_aload_n hx hb dX2_add_29 rfl (lv_at hl 0 rfl) ?_
    refine lv_dup hx hb dX2_add_30 rfl ?_
    refine kr_get (C := "MonitorWays$Program") (T := TX2) (N := 3) hx hb hts hin_X2 hown hK hP (2 + t) (by omega) (E_prog ht _ _ _ _) rfl 2 (by decide) lk_f18 (fun _ h9 => h9) rfl dX2_add_31 ?_
    refine kr_topi (y := nI n) ((up2_ne (by omega)).trans ((up2_ne (by omega)).trans hn)) ?_
    refine lv_iconst (v := 1) hx hb dX2_add_34 (by decide) ?_
    refine lv_iadd hx hb dX2_add_35 ?_
    refine kr_topi (y := nI (n + 1)) (nI_add n 1) ?_
    refine kr_put (C := "MonitorWays$Program") (T := TX2) (N := 3) hx hb hts hin_X2 tyX2 ok_tyX2 ok_nX2 hown hK hP hD hS (2 + t) (by omega) (fun _ => E_prog ht _ _ _ _) rfl 2 (by decide) lk_f18 (fun _ h9 => h9) rfl rfl rfl rfl (fun _ => Nat.le_of_ble_eq_true rfl) (fun _ => rfl) dX2_add_36 (fun H locs hP hD hS => ?_)
    exact kr_vret hx hb hr hlocks hK hP hD hS (by unfold m_pAdd; rw [if_neg c_1]) dX2_add_39
def r_xIsT (iv : Nat → Nat → Int32) (v : Int32) : Int32 := if v < 0 then 0 else (if 4 ≤ v then (0 : Int32) else 1)
theorem nb_xIsT (iv : Nat → Nat → Int32) (v : Int32) : narrow .boolean (.int (r_xIsT iv v)) = .int (r_xIsT iv v) := by
  unfold r_xIsT; repeat' split
  all_goals rfl
set_option maxHeartbeats 4000000 in
set_option maxRecDepth 100000 in
theorem c_xIsT (l : Launch) (D : va_G) (gc : Nat → ClassId) (ad ln : Nat → Nat) (iv : Nat → Nat → Int32) (lv : Nat → Nat → Int64) (v : Int32) : kMi l yX6_isThread wX6_isThread ({ frames := 0, cells := 0, slots := 0, locals := 0 }) D vwCl (kT gc) 42 (kE gc) [.int v] (ad, ln, iv, lv) (ad, ln, iv, lv) (r_xIsT iv v) := by
  refine ki_start (cc := cX6_isThread) (maxL := 1) (ret := (some .boolean)) (by decide) rfl (Nat.le_of_ble_eq_true rfl) ?_
  intro p9 e9 s m9 below meth c9 A ls hx hb hr hts hown hlocks hml hA hK hP hD hS hl
  have hl : lv_has ls 1 [(0, .int v)] := hl
  have hown : s.vm.findClass "MonitorWays" = some m9.cls := hown
  refine lv_iload_n hx hb dX6_isThread_0 rfl (lv_at hl 0 rfl) ?_
  refine lv_if_lt (tgt := 13) hx hb dX6_isThread_1 (by decide) (fun c_1 => ?_) (fun c_1 => ?_)
  · refine lv_iconst (v := 0) hx hb dX6_isThread_13 (by decide) ?_
    exact kr_zret hx hb hr hlocks hK hP hD hS (by decide) (by unfold r_xIsT; rw [if_pos c_1]) rfl dX6_isThread_14
  · refine lv_iload_n hx hb dX6_isThread_4 rfl (lv_at hl 0 rfl) ?_
    refine lv_iconst (v := 4) hx hb dX6_isThread_5 (by decide) ?_
    refine kr_tern (M := 14) (cnd := 4 ≤ v) (a := 0) (b := 1) (rest := []) (fun ja jb => ?_) ?_
    · refine lv_icmp_ge (tgt := 13) hx hb dX6_isThread_6 (by decide) (fun c_2 => ?_) (fun c_2 => ?_)
      · refine lv_iconst (v := 0) hx hb dX6_isThread_13 (by decide) ?_
        exact ja c_2
      · refine lv_iconst (v := 1) hx hb dX6_isThread_9 (by decide) ?_
        refine lv_goto (tgt := 14) hx hb dX6_isThread_10 (by decide) ?_
        exact jb c_2
    exact kr_zret hx hb hr hlocks hK hP hD hS (nb_ite (by decide) (by decide)) (by unfold r_xIsT; rw [if_neg c_1]) rfl dX6_isThread_14
def r_xIsM (iv : Nat → Nat → Int32) (v : Int32) : Int32 := if v < 0 then 0 else (if 2 ≤ v then (0 : Int32) else 1)
theorem nb_xIsM (iv : Nat → Nat → Int32) (v : Int32) : narrow .boolean (.int (r_xIsM iv v)) = .int (r_xIsM iv v) := by
  unfold r_xIsM; repeat' split
  all_goals rfl
set_option maxHeartbeats 4000000 in
set_option maxRecDepth 100000 in
theorem c_xIsM (l : Launch) (D : va_G) (gc : Nat → ClassId) (ad ln : Nat → Nat) (iv : Nat → Nat → Int32) (lv : Nat → Nat → Int64) (v : Int32) : kMi l yX6_isMonitor wX6_isMonitor ({ frames := 0, cells := 0, slots := 0, locals := 0 }) D vwCl (kT gc) 42 (kE gc) [.int v] (ad, ln, iv, lv) (ad, ln, iv, lv) (r_xIsM iv v) := by
  refine ki_start (cc := cX6_isMonitor) (maxL := 1) (ret := (some .boolean)) (by decide) rfl (Nat.le_of_ble_eq_true rfl) ?_
  intro p9 e9 s m9 below meth c9 A ls hx hb hr hts hown hlocks hml hA hK hP hD hS hl
  have hl : lv_has ls 1 [(0, .int v)] := hl
  have hown : s.vm.findClass "MonitorWays" = some m9.cls := hown
  refine lv_iload_n hx hb dX6_isMonitor_0 rfl (lv_at hl 0 rfl) ?_
  refine lv_if_lt (tgt := 13) hx hb dX6_isMonitor_1 (by decide) (fun c_1 => ?_) (fun c_1 => ?_)
  · refine lv_iconst (v := 0) hx hb dX6_isMonitor_13 (by decide) ?_
    exact kr_zret hx hb hr hlocks hK hP hD hS (by decide) (by unfold r_xIsM; rw [if_pos c_1]) rfl dX6_isMonitor_14
  · refine lv_iload_n hx hb dX6_isMonitor_4 rfl (lv_at hl 0 rfl) ?_
    refine lv_iconst (v := 2) hx hb dX6_isMonitor_5 (by decide) ?_
    refine kr_tern (M := 14) (cnd := 2 ≤ v) (a := 0) (b := 1) (rest := []) (fun ja jb => ?_) ?_
    · refine lv_icmp_ge (tgt := 13) hx hb dX6_isMonitor_6 (by decide) (fun c_2 => ?_) (fun c_2 => ?_)
      · refine lv_iconst (v := 0) hx hb dX6_isMonitor_13 (by decide) ?_
        exact ja c_2
      · refine lv_iconst (v := 1) hx hb dX6_isMonitor_9 (by decide) ?_
        refine lv_goto (tgt := 14) hx hb dX6_isMonitor_10 (by decide) ?_
        exact jb c_2
    exact kr_zret hx hb hr hlocks hK hP hD hS (nb_ite (by decide) (by decide)) (by unfold r_xIsM; rw [if_neg c_1]) rfl dX6_isMonitor_14
def r_xIsW (iv : Nat → Nat → Int32) (v : Int32) : Int32 := if v < 0 then 0 else (if 4 ≤ v then (0 : Int32) else 1)
theorem nb_xIsW (iv : Nat → Nat → Int32) (v : Int32) : narrow .boolean (.int (r_xIsW iv v)) = .int (r_xIsW iv v) := by
  unfold r_xIsW; repeat' split
  all_goals rfl
set_option maxHeartbeats 4000000 in
set_option maxRecDepth 100000 in
theorem c_xIsW (l : Launch) (D : va_G) (gc : Nat → ClassId) (ad ln : Nat → Nat) (iv : Nat → Nat → Int32) (lv : Nat → Nat → Int64) (v : Int32) : kMi l yX6_isWay wX6_isWay ({ frames := 0, cells := 0, slots := 0, locals := 0 }) D vwCl (kT gc) 42 (kE gc) [.int v] (ad, ln, iv, lv) (ad, ln, iv, lv) (r_xIsW iv v) := by
  refine ki_start (cc := cX6_isWay) (maxL := 1) (ret := (some .boolean)) (by decide) rfl (Nat.le_of_ble_eq_true rfl) ?_
  intro p9 e9 s m9 below meth c9 A ls hx hb hr hts hown hlocks hml hA hK hP hD hS hl
  have hl : lv_has ls 1 [(0, .int v)] := hl
  have hown : s.vm.findClass "MonitorWays" = some m9.cls := hown
  refine lv_iload_n hx hb dX6_isWay_0 rfl (lv_at hl 0 rfl) ?_
  refine lv_if_lt (tgt := 13) hx hb dX6_isWay_1 (by decide) (fun c_1 => ?_) (fun c_1 => ?_)
  · refine lv_iconst (v := 0) hx hb dX6_isWay_13 (by decide) ?_
    exact kr_zret hx hb hr hlocks hK hP hD hS (by decide) (by unfold r_xIsW; rw [if_pos c_1]) rfl dX6_isWay_14
  · refine lv_iload_n hx hb dX6_isWay_4 rfl (lv_at hl 0 rfl) ?_
    refine lv_iconst (v := 4) hx hb dX6_isWay_5 (by decide) ?_
    refine kr_tern (M := 14) (cnd := 4 ≤ v) (a := 0) (b := 1) (rest := []) (fun ja jb => ?_) ?_
    · refine lv_icmp_ge (tgt := 13) hx hb dX6_isWay_6 (by decide) (fun c_2 => ?_) (fun c_2 => ?_)
      · refine lv_iconst (v := 0) hx hb dX6_isWay_13 (by decide) ?_
        exact ja c_2
      · refine lv_iconst (v := 1) hx hb dX6_isWay_9 (by decide) ?_
        refine lv_goto (tgt := 14) hx hb dX6_isWay_10 (by decide) ?_
        exact jb c_2
    exact kr_zret hx hb hr hlocks hK hP hD hS (nb_ite (by decide) (by decide)) (by unfold r_xIsW; rw [if_neg c_1]) rfl dX6_isWay_14
def r_xIsA (iv : Nat → Nat → Int32) (x a : Int32) : Int32 := if x < 0 then 0 else if x ≤ 12 then if 5 < x then if x = 6 then (r_xIsT iv a) else if x = 8 then (r_xIsT iv a) else if x = 9 then (r_xIsT iv a) else if x = 11 then if a < 0 then 0 else (if 4 ≤ a then (0 : Int32) else 1) else 1 else (r_xIsM iv a) else 0
set_option maxHeartbeats 4000000 in
set_option maxRecDepth 100000 in
theorem c_xIsA (l : Launch) (D : va_G) (gc : Nat → ClassId) (ad ln : Nat → Nat) (iv : Nat → Nat → Int32) (lv : Nat → Nat → Int64) (x a : Int32) : kMi l yX6_isAction wX6_isAction ({ frames := 1, cells := 0, slots := 0, locals := 20 }) D vwCl (kT gc) 42 (kE gc) [.int x, .int a] (ad, ln, iv, lv) (ad, ln, iv, lv) (r_xIsA iv x a) := by
  refine ki_start (cc := cX6_isAction) (maxL := 2) (ret := (some .boolean)) (by decide) rfl (Nat.le_of_ble_eq_true rfl) ?_
  intro p9 e9 s m9 below meth c9 A ls hx hb hr hts hown hlocks hml hA hK hP hD hS hl
  have hl : lv_has ls 2 [(0, .int x), (1, .int a)] := hl
  have hown : s.vm.findClass "MonitorWays" = some m9.cls := hown
  refine lv_iload_n hx hb dX6_isAction_0 rfl (lv_at hl 0 rfl) ?_
  refine lv_if_lt (tgt := 10) hx hb dX6_isAction_1 (by decide) (fun c_1 => ?_) (fun c_1 => ?_)
  · refine lv_iconst (v := 0) hx hb dX6_isAction_10 (by decide) ?_
    exact kr_zret hx hb hr hlocks hK hP hD hS (by decide) (by unfold r_xIsA; rw [if_pos c_1]) rfl dX6_isAction_11
  · refine lv_iload_n hx hb dX6_isAction_4 rfl (lv_at hl 0 rfl) ?_
    refine lv_bipush (v := 12) hx hb dX6_isAction_5 (by decide) ?_
    refine lv_icmp_le (tgt := 12) hx hb dX6_isAction_7 (by decide) (fun c_2 => ?_) (fun c_2 => ?_)
    · refine lv_iload_n hx hb dX6_isAction_12 rfl (lv_at hl 0 rfl) ?_
      refine lv_iconst (v := 5) hx hb dX6_isAction_13 (by decide) ?_
      refine lv_icmp_gt (tgt := 22) hx hb dX6_isAction_14 (by decide) (fun c_3 => ?_) (fun c_3 => ?_)
      · refine lv_iload_n hx hb dX6_isAction_22 rfl (lv_at hl 0 rfl) ?_
        refine lv_bipush (v := 6) hx hb dX6_isAction_23 (by decide) ?_
        refine lv_icmp_eq (tgt := 40) hx hb dX6_isAction_25 (by decide) (fun c_4 => ?_) (fun c_4 => ?_)
        · refine lv_iload_n hx hb dX6_isAction_40 rfl (lv_at hl 1 rfl) ?_
          refine kr_callSi (As := [.int a]) (rest := []) ⟨hx, hb, hml, hown, hts⟩ (c_xIsT l D gc ad ln iv lv a) (cwS 1 hts (goodS (fun _ h => tcons h) tw_223 tw_224 tw_1 tw_225) rfl rfl rfl (by decide +kernel) ⟨Nat.le_of_ble_eq_true rfl, Nat.le_of_ble_eq_true rfl⟩) hK hP hD hS hA rfl hl.1 rfl (Nat.le_of_ble_eq_true rfl) dX6_isAction_41 ⟨Nat.le_of_ble_eq_true rfl, Nat.le_of_ble_eq_true rfl⟩ (fun H locs hP hD hS => ?_)
          exact kr_zret hx hb hr hlocks hK hP hD hS (nb_xIsT iv a) (by unfold r_xIsA; rw [if_neg c_1, if_pos c_2, if_pos c_3, if_pos c_4]) rfl dX6_isAction_44
        · refine lv_iload_n hx hb dX6_isAction_28 rfl (lv_at hl 0 rfl) ?_
          refine lv_bipush (v := 8) hx hb dX6_isAction_29 (by decide) ?_
          refine lv_icmp_eq (tgt := 40) hx hb dX6_isAction_31 (by decide) (fun c_5 => ?_) (fun c_5 => ?_)
          · refine lv_iload_n hx hb dX6_isAction_40 rfl (lv_at hl 1 rfl) ?_
            refine kr_callSi (As := [.int a]) (rest := []) ⟨hx, hb, hml, hown, hts⟩ (c_xIsT l D gc ad ln iv lv a) (cwS 1 hts (goodS (fun _ h => tcons h) tw_223 tw_224 tw_1 tw_225) rfl rfl rfl (by decide +kernel) ⟨Nat.le_of_ble_eq_true rfl, Nat.le_of_ble_eq_true rfl⟩) hK hP hD hS hA rfl hl.1 rfl (Nat.le_of_ble_eq_true rfl) dX6_isAction_41 ⟨Nat.le_of_ble_eq_true rfl, Nat.le_of_ble_eq_true rfl⟩ (fun H locs hP hD hS => ?_)
            exact kr_zret hx hb hr hlocks hK hP hD hS (nb_xIsT iv a) (by unfold r_xIsA; rw [if_neg c_1, if_pos c_2, if_pos c_3, if_neg c_4, if_pos c_5]) rfl dX6_isAction_44
          · refine lv_iload_n hx hb dX6_isAction_34 rfl (lv_at hl 0 rfl) ?_
            refine lv_bipush (v := 9) hx hb dX6_isAction_35 (by decide) ?_
            refine lv_icmp_ne (tgt := 45) hx hb dX6_isAction_37 (by decide) (fun c_6 => ?_) (fun c_6 => ?_)
            · refine lv_iload_n hx hb dX6_isAction_45 rfl (lv_at hl 0 rfl) ?_
              refine lv_bipush (v := 11) hx hb dX6_isAction_46 (by decide) ?_
              refine lv_icmp_ne (tgt := 60) hx hb dX6_isAction_48 (by decide) (fun c_7 => ?_) (fun c_7 => ?_)
              · refine lv_iconst (v := 1) hx hb dX6_isAction_60 (by decide) ?_
                refine lv_goto (tgt := 65) hx hb dX6_isAction_61 (by decide) ?_
                exact kr_zret hx hb hr hlocks hK hP hD hS (by decide) (by unfold r_xIsA; rw [if_neg c_1, if_pos c_2, if_pos c_3, if_neg c_4, if_neg c_5, if_neg c_6, if_neg c_7]) rfl dX6_isAction_65
              · refine lv_iload_n hx hb dX6_isAction_51 rfl (lv_at hl 1 rfl) ?_
                refine lv_if_lt (tgt := 64) hx hb dX6_isAction_52 (by decide) (fun c_8 => ?_) (fun c_8 => ?_)
                · refine lv_iconst (v := 0) hx hb dX6_isAction_64 (by decide) ?_
                  exact kr_zret hx hb hr hlocks hK hP hD hS (by decide) (by unfold r_xIsA; rw [if_neg c_1, if_pos c_2, if_pos c_3, if_neg c_4, if_neg c_5, if_neg c_6, if_pos c_7, if_pos c_8]) rfl dX6_isAction_65
                · refine lv_iload_n hx hb dX6_isAction_55 rfl (lv_at hl 1 rfl) ?_
                  refine lv_iconst (v := 4) hx hb dX6_isAction_56 (by decide) ?_
                  refine kr_tern (M := 65) (cnd := 4 ≤ a) (a := 0) (b := 1) (rest := []) (fun ja jb => ?_) ?_
                  · refine lv_icmp_ge (tgt := 64) hx hb dX6_isAction_57 (by decide) (fun c_9 => ?_) (fun c_9 => ?_)
                    · refine lv_iconst (v := 0) hx hb dX6_isAction_64 (by decide) ?_
                      exact ja c_9
                    · refine lv_iconst (v := 1) hx hb dX6_isAction_60 (by decide) ?_
                      refine lv_goto (tgt := 65) hx hb dX6_isAction_61 (by decide) ?_
                      exact jb c_9
                  exact kr_zret hx hb hr hlocks hK hP hD hS (nb_ite (by decide) (by decide)) (by unfold r_xIsA; rw [if_neg c_1, if_pos c_2, if_pos c_3, if_neg c_4, if_neg c_5, if_neg c_6, if_pos c_7, if_neg c_8]) rfl dX6_isAction_65
            · refine lv_iload_n hx hb dX6_isAction_40 rfl (lv_at hl 1 rfl) ?_
              refine kr_callSi (As := [.int a]) (rest := []) ⟨hx, hb, hml, hown, hts⟩ (c_xIsT l D gc ad ln iv lv a) (cwS 1 hts (goodS (fun _ h => tcons h) tw_223 tw_224 tw_1 tw_225) rfl rfl rfl (by decide +kernel) ⟨Nat.le_of_ble_eq_true rfl, Nat.le_of_ble_eq_true rfl⟩) hK hP hD hS hA rfl hl.1 rfl (Nat.le_of_ble_eq_true rfl) dX6_isAction_41 ⟨Nat.le_of_ble_eq_true rfl, Nat.le_of_ble_eq_true rfl⟩ (fun H locs hP hD hS => ?_)
              exact kr_zret hx hb hr hlocks hK hP hD hS (nb_xIsT iv a) (by unfold r_xIsA; rw [if_neg c_1, if_pos c_2, if_pos c_3, if_neg c_4, if_neg c_5, if_pos c_6]) rfl dX6_isAction_44
      · refine lv_iload_n hx hb dX6_isAction_17 rfl (lv_at hl 1 rfl) ?_
        refine kr_callSi (As := [.int a]) (rest := []) ⟨hx, hb, hml, hown, hts⟩ (c_xIsM l D gc ad ln iv lv a) (cwS 1 hts (goodS (fun _ h => tcons h) tw_229 tw_230 tw_1 tw_231) rfl rfl rfl (by decide +kernel) ⟨Nat.le_of_ble_eq_true rfl, Nat.le_of_ble_eq_true rfl⟩) hK hP hD hS hA rfl hl.1 rfl (Nat.le_of_ble_eq_true rfl) dX6_isAction_18 ⟨Nat.le_of_ble_eq_true rfl, Nat.le_of_ble_eq_true rfl⟩ (fun H locs hP hD hS => ?_)
        exact kr_zret hx hb hr hlocks hK hP hD hS (nb_xIsM iv a) (by unfold r_xIsA; rw [if_neg c_1, if_pos c_2, if_neg c_3]) rfl dX6_isAction_21
    · refine lv_iconst (v := 0) hx hb dX6_isAction_10 (by decide) ?_
      exact kr_zret hx hb hr hlocks hK hP hD hS (by decide) (by unfold r_xIsA; rw [if_neg c_1, if_neg c_2]) rfl dX6_isAction_11
def m_xAnew (iv : Nat → Nat → Int32) : Nat → Nat → Int32 := (up2 (m_aBegin iv 0) 0 3 0)
set_option maxHeartbeats 4000000 in
set_option maxRecDepth 100000 in
theorem c_xAnew (l : Launch) (D : va_G) (gc : Nat → ClassId) (ad ln : Nat → Nat) (iv : Nat → Nat → Int32) (lv : Nat → Nat → Int64) : kMv l yX6_beginAnew wX6_beginAnew ({ frames := 3, cells := 0, slots := 0, locals := 61 }) D vwCl (kT gc) 42 (kE gc) [.ref (ad 0)] (ad, ln, iv, lv) (ad, ln, m_xAnew iv, lv) := by
  refine kv_start (cc := cX6_beginAnew) (maxL := 1) (by decide) rfl (Nat.le_of_ble_eq_true rfl) ?_
  intro p9 e9 s m9 below meth c9 A ls hx hb hr hts hown hlocks hml hA hK hP hD hS hl
  have hl : lv_has ls 1 [(0, .ref (ad 0))] := hl
  have hown : s.vm.findClass "MonitorWays" = some m9.cls := hown
  have hin_X6 : ∀ w ∈ u_ws "MonitorWays" TX6 4, w ∈ wX6_beginAnew := fun w h => tcons (inX6 w h)
  have lk_f21 := hts _ (tcons tw_207)
  have lk_f65 := hts _ (tcons tw_209)
  refine lv_aload_n hx hb dX6_beginAnew_0 rfl (lv_at hl 0 rfl) ?_
  refine kr_get (C := "MonitorWays") (T := TX6) (N := 4) hx hb hts hin_X6 hown hK hP 0 (by decide) (E_main _ _ _ _) rfl 1 (by decide) lk_f21 (fun _ h9 => h9) rfl dX6_beginAnew_1 ?_
  refine kr_callVv (As := []) (rest := []) ⟨hx, hb, hml, hown, hts⟩ (c_aBegin l D gc ad ln iv lv 0 (by decide)) (cwV 0 hts (goodV (fun _ h => tcons h) tw_244 tw_111 tw_112 tw_3 tw_113) rfl rfl rfl (by decide +kernel) ⟨Nat.le_of_ble_eq_true rfl, Nat.le_of_ble_eq_true rfl⟩) (kr_recv hK hP (14 + 0) (by omega) (E_mach (by decide) _ _ _ _) rfl) hK hP hD hS hA rfl hl.1 rfl (Nat.le_of_ble_eq_true rfl) dX6_beginAnew_4 ⟨Nat.le_of_ble_eq_true rfl, Nat.le_of_ble_eq_true rfl⟩ (fun H locs hP hD hS => ?_)
  refine lv_aload_n hx hb dX6_beginAnew_7 rfl (lv_at hl 0 rfl) ?_
  refine lv_iconst (v := 0) hx hb dX6_beginAnew_8 (by decide) ?_
  refine kr_put (C := "MonitorWays") (T := TX6) (N := 4) hx hb hts hin_X6 tyX6 ok_tyX6 ok_nX6 hown hK hP hD hS 0 (by decide) (fun _ => E_main _ _ _ _) rfl 3 (by decide) lk_f65 (fun _ h9 => h9) rfl rfl rfl rfl (fun _ => Nat.le_of_ble_eq_true rfl) (fun _ => rfl) dX6_beginAnew_9 (fun H locs hP hD hS => ?_)
  exact kr_vret hx hb hr hlocks hK hP hD hS rfl dX6_beginAnew_12
def r_xReset (iv : Nat → Nat → Int32) : Int32 := iv 0 3
def m_xReset (iv : Nat → Nat → Int32) : Nat → Nat → Int32 := (m_xAnew iv)
set_option maxHeartbeats 4000000 in
set_option maxRecDepth 100000 in
theorem c_xReset (l : Launch) (D : va_G) (gc : Nat → ClassId) (ad ln : Nat → Nat) (iv : Nat → Nat → Int32) (lv : Nat → Nat → Int64) : kMi l yX6_reset wX6_reset ({ frames := 4, cells := 0, slots := 0, locals := 81 }) D vwCl (kT gc) 42 (kE gc) [.ref (ad 0)] (ad, ln, iv, lv) (ad, ln, m_xReset iv, lv) (r_xReset iv) := by
  refine ki_start (cc := cX6_reset) (maxL := 2) (ret := (some .int)) (by decide) rfl (Nat.le_of_ble_eq_true rfl) ?_
  intro p9 e9 s m9 below meth c9 A ls hx hb hr hts hown hlocks hml hA hK hP hD hS hl
  have hl : lv_has ls 2 [(0, .ref (ad 0))] := hl
  have hown : s.vm.findClass "MonitorWays" = some m9.cls := hown
  have hin_X6 : ∀ w ∈ u_ws "MonitorWays" TX6 4, w ∈ wX6_reset := fun w h => tcons (inX6 w h)
  have lk_f65 := hts _ (tcons tw_209)
  refine lv_aload_n hx hb dX6_reset_0 rfl (lv_at hl 0 rfl) ?_
  refine kr_get (C := "MonitorWays") (T := TX6) (N := 4) hx hb hts hin_X6 hown hK hP 0 (by decide) (E_main _ _ _ _) rfl 3 (by decide) lk_f65 (fun _ h9 => h9) rfl dX6_reset_1 ?_
  refine lv_istore_n (lv' := [(1, .int (iv 0 3)), (0, .ref (ad 0))]) hx hb dX6_reset_4 rfl hl (by decide) rfl (fun ls hl => ?_)
  refine lv_aload_n hx hb dX6_reset_5 rfl (lv_at hl 1 rfl) ?_
  refine kr_callVv (As := []) (rest := []) ⟨hx, hb, hml, hown, hts⟩ (c_xAnew l D gc ad ln iv lv) (cwV 0 hts (goodV (fun _ h => tcons h) tw_240 tw_242 ts_0 tw_1 tw_243) rfl rfl rfl (by decide +kernel) ⟨Nat.le_of_ble_eq_true rfl, Nat.le_of_ble_eq_true rfl⟩) (kr_recv hK hP 0 (by decide) (E_main _ _ _ _) rfl) hK hP hD hS hA rfl hl.1 rfl (Nat.le_of_ble_eq_true rfl) dX6_reset_6 ⟨Nat.le_of_ble_eq_true rfl, Nat.le_of_ble_eq_true rfl⟩ (fun H locs hP hD hS => ?_)
  refine lv_iload_n hx hb dX6_reset_9 rfl (lv_at hl 0 rfl) ?_
  exact kr_iret hx hb hr hlocks hK hP hD hS rfl rfl dX6_reset_10
def r_xState (iv : Nat → Nat → Int32) (tt : Int32) (t : Nat) : Int32 := if (r_xIsT iv tt) = 0 then (-1) else (r_wState iv 0 t)
set_option maxHeartbeats 4000000 in
set_option maxRecDepth 100000 in
theorem c_xState (l : Launch) (D : va_G) (gc : Nat → ClassId) (ad ln : Nat → Nat) (iv : Nat → Nat → Int32) (lv : Nat → Nat → Int64) (tt : Int32) (t : Nat) (ht : ¬ r_xIsT iv tt = 0 → t < 4 ∧ tt = nI t) : kMi l yX6_state wX6_state ({ frames := 1, cells := 0, slots := 0, locals := 20 }) D vwCl (kT gc) 42 (kE gc) [.ref (ad 0), .int tt] (ad, ln, iv, lv) (ad, ln, iv, lv) (r_xState iv tt t) := by
  refine ki_start (cc := cX6_state) (maxL := 2) (ret := (some .int)) (by decide) rfl (Nat.le_of_ble_eq_true rfl) ?_
  intro p9 e9 s m9 below meth c9 A ls hx hb hr hts hown hlocks hml hA hK hP hD hS hl
  have hl : lv_has ls 2 [(0, .ref (ad 0)), (1, .int tt)] := hl
  have hown : s.vm.findClass "MonitorWays" = some m9.cls := hown
  have hin_X6 : ∀ w ∈ u_ws "MonitorWays" TX6 4, w ∈ wX6_state := fun w h => tcons (inX6 w h)
  have hin_X0 : ∀ w ∈ u_ws "MonitorWays$Machine" TX0 3, w ∈ wX6_state := fun w h => tcons (inX0 w h)
  have lk_f21 := hts _ (tcons tw_207)
  have lk_f68 := hts _ (tcons tw_127)
  refine lv_iload_n hx hb dX6_state_0 rfl (lv_at hl 1 rfl) ?_
  refine kr_callSi (As := [.int tt]) (rest := []) ⟨hx, hb, hml, hown, hts⟩ (c_xIsT l D gc ad ln iv lv tt) (cwS 1 hts (goodS (fun _ h => tcons h) tw_223 tw_224 tw_1 tw_225) rfl rfl rfl (by decide +kernel) ⟨Nat.le_of_ble_eq_true rfl, Nat.le_of_ble_eq_true rfl⟩) hK hP hD hS hA rfl hl.1 rfl (Nat.le_of_ble_eq_true rfl) dX6_state_1 ⟨Nat.le_of_ble_eq_true rfl, Nat.le_of_ble_eq_true rfl⟩ (fun H locs hP hD hS => ?_)
  refine lv_if_eq (tgt := 22) hx hb dX6_state_4 (by decide) (fun c_1 => ?_) (fun c_1 => ?_)
  · refine lv_iconst (v := (-1)) hx hb dX6_state_22 (by decide) ?_
    exact kr_iret hx hb hr hlocks hK hP hD hS (by unfold r_xState; rw [if_pos c_1]) rfl dX6_state_23
  · obtain ⟨ht4, htt⟩ := ht c_1
    refine lv_aload_n hx hb dX6_state_7 rfl (lv_at hl 0 rfl) ?_
    refine kr_get (C := "MonitorWays") (T := TX6) (N := 4) hx hb hts hin_X6 hown hK hP 0 (by decide) (E_main _ _ _ _) rfl 1 (by decide) lk_f21 (fun _ h9 => h9) rfl dX6_state_8 ?_
    refine kr_get (C := "MonitorWays$Machine") (T := TX0) (N := 3) hx hb hts hin_X0 hown hK hP (14 + 0) (by omega) (E_mach (by decide) _ _ _ _) rfl 0 (by decide) lk_f68 (fun _ h9 => h9) rfl dX6_state_11 ?_
    refine lv_iload_n hx hb dX6_state_14 rfl (lv_at hl 1 rfl) ?_
    refine kr_topi (y := nI t) htt ?_
    refine kr_aald (a := ad (20 + 4 * 0 + t)) hx hb hK hP (16 + 0) 4 (by omega) (E_warr (by decide) _ _ _ _) rfl (vp_in_nI (n := t) (by omega) (by decide)) (by rw [nI_clamp (show t < 2 ^ 31 by omega)]) dX6_state_15 ?_
    refine kr_callVi (As := []) (rest := []) ⟨hx, hb, hml, hown, hts⟩ (c_wState l D gc ad ln iv lv 0 t (by decide) (by omega)) (cwV 0 hts (goodV (fun _ h => tcons h) tw_377 tw_378 tw_379 tw_4 tw_380) rfl rfl rfl (by decide +kernel) ⟨Nat.le_of_ble_eq_true rfl, Nat.le_of_ble_eq_true rfl⟩) (kr_recv hK hP (20 + 4 * 0 + t) (by omega) (E_wk (mi := 0) (t := t) (by decide) (by omega) _ _ _ _) rfl) hK hP hD hS hA rfl hl.1 rfl (Nat.le_of_ble_eq_true rfl) dX6_state_16 ⟨Nat.le_of_ble_eq_true rfl, Nat.le_of_ble_eq_true rfl⟩ (fun H locs hP hD hS => ?_)
    refine lv_goto (tgt := 23) hx hb dX6_state_19 (by decide) ?_
    exact kr_iret hx hb hr hlocks hK hP hD hS (by unfold r_xState; rw [if_neg c_1]) rfl dX6_state_23
def r_xLetter (iv : Nat → Nat → Int32) (tt : Int32) (t : Nat) (k : Int32) (n kx : Nat) : Int32 := if (r_xIsT iv tt) = 0 then (-1) else (r_wLetterAt iv 0 t k n kx)
set_option maxHeartbeats 4000000 in
set_option maxRecDepth 100000 in
theorem c_xLetter (l : Launch) (D : va_G) (gc : Nat → ClassId) (ad ln : Nat → Nat) (iv : Nat → Nat → Int32) (lv : Nat → Nat → Int64) (tt : Int32) (t : Nat) (ht : ¬ r_xIsT iv tt = 0 → t < 4 ∧ tt = nI t) (k : Int32) (n kx : Nat) (hn : t < 4 → r_wLetters iv 0 t = nI n ∧ n ≤ 6) (hkx : ¬ k < 0 → k < nI n → kx < n ∧ k = nI kx) : kMi l yX6_letter wX6_letter ({ frames := 2, cells := 0, slots := 0, locals := 46 }) D vwCl (kT gc) 42 (kE gc) [.ref (ad 0), .int tt, .int k] (ad, ln, iv, lv) (ad, ln, iv, lv) (r_xLetter iv tt t k n kx) := by
  refine ki_start (cc := cX6_letter) (maxL := 3) (ret := (some .int)) (by decide) rfl (Nat.le_of_ble_eq_true rfl) ?_
  intro p9 e9 s m9 below meth c9 A ls hx hb hr hts hown hlocks hml hA hK hP hD hS hl
  have hl : lv_has ls 3 [(0, .ref (ad 0)), (1, .int tt), (2, .int k)] := hl
  have hown : s.vm.findClass "MonitorWays" = some m9.cls := hown
  have hin_X6 : ∀ w ∈ u_ws "MonitorWays" TX6 4, w ∈ wX6_letter := fun w h => tcons (inX6 w h)
  have hin_X0 : ∀ w ∈ u_ws "MonitorWays$Machine" TX0 3, w ∈ wX6_letter := fun w h => tcons (inX0 w h)
  have lk_f21 := hts _ (tcons tw_207)
  have lk_f68 := hts _ (tcons tw_127)
  refine lv_iload_n hx hb dX6_letter_0 rfl (lv_at hl 1 rfl) ?_
  refine kr_callSi (As := [.int tt]) (rest := []) ⟨hx, hb, hml, hown, hts⟩ (c_xIsT l D gc ad ln iv lv tt) (cwS 1 hts (goodS (fun _ h => tcons h) tw_223 tw_224 tw_1 tw_225) rfl rfl rfl (by decide +kernel) ⟨Nat.le_of_ble_eq_true rfl, Nat.le_of_ble_eq_true rfl⟩) hK hP hD hS hA rfl hl.1 rfl (Nat.le_of_ble_eq_true rfl) dX6_letter_1 ⟨Nat.le_of_ble_eq_true rfl, Nat.le_of_ble_eq_true rfl⟩ (fun H locs hP hD hS => ?_)
  refine lv_if_eq (tgt := 23) hx hb dX6_letter_4 (by decide) (fun c_1 => ?_) (fun c_1 => ?_)
  · refine lv_iconst (v := (-1)) hx hb dX6_letter_23 (by decide) ?_
    exact kr_iret hx hb hr hlocks hK hP hD hS (by unfold r_xLetter; rw [if_pos c_1]) rfl dX6_letter_24
  · obtain ⟨ht4, htt⟩ := ht c_1
    refine lv_aload_n hx hb dX6_letter_7 rfl (lv_at hl 0 rfl) ?_
    refine kr_get (C := "MonitorWays") (T := TX6) (N := 4) hx hb hts hin_X6 hown hK hP 0 (by decide) (E_main _ _ _ _) rfl 1 (by decide) lk_f21 (fun _ h9 => h9) rfl dX6_letter_8 ?_
    refine kr_get (C := "MonitorWays$Machine") (T := TX0) (N := 3) hx hb hts hin_X0 hown hK hP (14 + 0) (by omega) (E_mach (by decide) _ _ _ _) rfl 0 (by decide) lk_f68 (fun _ h9 => h9) rfl dX6_letter_11 ?_
    refine lv_iload_n hx hb dX6_letter_14 rfl (lv_at hl 1 rfl) ?_
    refine kr_topi (y := nI t) htt ?_
    refine kr_aald (a := ad (20 + 4 * 0 + t)) hx hb hK hP (16 + 0) 4 (by omega) (E_warr (by decide) _ _ _ _) rfl (vp_in_nI (n := t) (by omega) (by decide)) (by rw [nI_clamp (show t < 2 ^ 31 by omega)]) dX6_letter_15 ?_
    refine lv_iload_n hx hb dX6_letter_16 rfl (lv_at hl 2 rfl) ?_
    refine kr_callVi (As := [.int k]) (rest := []) ⟨hx, hb, hml, hown, hts⟩ (c_wLetterAt l D gc ad ln iv lv 0 t (by decide) (by omega) k n kx (hn ht4).1 (hn ht4).2 hkx) (cwV 1 hts (goodV (fun _ h => tcons h) tw_385 tw_386 tw_387 tw_4 tw_388) rfl rfl rfl (by decide +kernel) ⟨Nat.le_of_ble_eq_true rfl, Nat.le_of_ble_eq_true rfl⟩) (kr_recv hK hP (20 + 4 * 0 + t) (by omega) (E_wk (mi := 0) (t := t) (by decide) (by omega) _ _ _ _) rfl) hK hP hD hS hA rfl hl.1 rfl (Nat.le_of_ble_eq_true rfl) dX6_letter_17 ⟨Nat.le_of_ble_eq_true rfl, Nat.le_of_ble_eq_true rfl⟩ (fun H locs hP hD hS => ?_)
    refine lv_goto (tgt := 24) hx hb dX6_letter_20 (by decide) ?_
    exact kr_iret hx hb hr hlocks hK hP hD hS (by unfold r_xLetter; rw [if_neg c_1]) rfl dX6_letter_24
def r_xHeld (iv : Nat → Nat → Int32) (k : Int32) (mm : Nat) : Int32 := if (r_xIsM iv k) = 0 then 0 else iv (28 + 2 * 0 + mm) 1
set_option maxHeartbeats 4000000 in
set_option maxRecDepth 100000 in
theorem c_xHeld (l : Launch) (D : va_G) (gc : Nat → ClassId) (ad ln : Nat → Nat) (iv : Nat → Nat → Int32) (lv : Nat → Nat → Int64) (k : Int32) (mm : Nat) (hm : ¬ r_xIsM iv k = 0 → mm < 2 ∧ k = nI mm) : kMi l yX6_held wX6_held ({ frames := 1, cells := 0, slots := 0, locals := 20 }) D vwCl (kT gc) 42 (kE gc) [.ref (ad 0), .int k] (ad, ln, iv, lv) (ad, ln, iv, lv) (r_xHeld iv k mm) := by
  refine ki_start (cc := cX6_held) (maxL := 2) (ret := (some .int)) (by decide) rfl (Nat.le_of_ble_eq_true rfl) ?_
  intro p9 e9 s m9 below meth c9 A ls hx hb hr hts hown hlocks hml hA hK hP hD hS hl
  have hl : lv_has ls 2 [(0, .ref (ad 0)), (1, .int k)] := hl
  have hown : s.vm.findClass "MonitorWays" = some m9.cls := hown
  have hin_X6 : ∀ w ∈ u_ws "MonitorWays" TX6 4, w ∈ wX6_held := fun w h => tcons (inX6 w h)
  have hin_X0 : ∀ w ∈ u_ws "MonitorWays$Machine" TX0 3, w ∈ wX6_held := fun w h => tcons (inX0 w h)
  have hin_X1 : ∀ w ∈ u_ws "MonitorWays$Monitor" TX1 4, w ∈ wX6_held := fun w h => tcons (inX1 w h)
  have lk_f21 := hts _ (tcons tw_207)
  have lk_f85 := hts _ (tcons tw_129)
  have lk_f98 := hts _ (tcons tw_96)
  refine lv_iload_n hx hb dX6_held_0 rfl (lv_at hl 1 rfl) ?_
  refine kr_callSi (As := [.int k]) (rest := []) ⟨hx, hb, hml, hown, hts⟩ (c_xIsM l D gc ad ln iv lv k) (cwS 1 hts (goodS (fun _ h => tcons h) tw_229 tw_230 tw_1 tw_231) rfl rfl rfl (by decide +kernel) ⟨Nat.le_of_ble_eq_true rfl, Nat.le_of_ble_eq_true rfl⟩) hK hP hD hS hA rfl hl.1 rfl (Nat.le_of_ble_eq_true rfl) dX6_held_1 ⟨Nat.le_of_ble_eq_true rfl, Nat.le_of_ble_eq_true rfl⟩ (fun H locs hP hD hS => ?_)
  refine lv_if_eq (tgt := 22) hx hb dX6_held_4 (by decide) (fun c_1 => ?_) (fun c_1 => ?_)
  · refine lv_iconst (v := 0) hx hb dX6_held_22 (by decide) ?_
    exact kr_iret hx hb hr hlocks hK hP hD hS (by unfold r_xHeld; rw [if_pos c_1]) rfl dX6_held_23
  · obtain ⟨hm2, hmk⟩ := hm c_1
    refine lv_aload_n hx hb dX6_held_7 rfl (lv_at hl 0 rfl) ?_
    refine kr_get (C := "MonitorWays") (T := TX6) (N := 4) hx hb hts hin_X6 hown hK hP 0 (by decide) (E_main _ _ _ _) rfl 1 (by decide) lk_f21 (fun _ h9 => h9) rfl dX6_held_8 ?_
    refine kr_get (C := "MonitorWays$Machine") (T := TX0) (N := 3) hx hb hts hin_X0 hown hK hP (14 + 0) (by omega) (E_mach (by decide) _ _ _ _) rfl 1 (by decide) lk_f85 (fun _ h9 => h9) rfl dX6_held_11 ?_
    refine lv_iload_n hx hb dX6_held_14 rfl (lv_at hl 1 rfl) ?_
    refine kr_topi (y := nI mm) hmk ?_
    refine kr_aald (a := ad (28 + 2 * 0 + mm)) hx hb hK hP (18 + 0) 5 (by omega) (E_marr (by decide) _ _ _ _) rfl (vp_in_nI (n := mm) (by omega) (by decide)) (by rw [nI_clamp (show mm < 2 ^ 31 by omega)]) dX6_held_15 ?_
    refine kr_get (C := "MonitorWays$Monitor") (T := TX1) (N := 4) hx hb hts hin_X1 hown hK hP (28 + 2 * 0 + mm) (by omega) (E_mon (mi := 0) (m := mm) (by decide) (by omega) _ _ _ _) rfl 1 (by decide) lk_f98 (fun _ h9 => h9) rfl dX6_held_16 ?_
    refine lv_goto (tgt := 23) hx hb dX6_held_19 (by decide) ?_
    exact kr_iret hx hb hr hlocks hK hP hD hS (by unfold r_xHeld; rw [if_neg c_1]) rfl dX6_held_23
def r_xInSet (iv : Nat → Nat → Int32) (k : Int32) (mm : Nat) (x : Int32) : Int32 := if (r_xIsM iv k) = 0 then (-1) else (r_mWaiter iv 0 mm x)
set_option maxHeartbeats 4000000 in
set_option maxRecDepth 100000 in
theorem c_xInSet (l : Launch) (D : va_G) (gc : Nat → ClassId) (ad ln : Nat → Nat) (iv : Nat → Nat → Int32) (lv : Nat → Nat → Int64) (k : Int32) (mm : Nat) (hm : ¬ r_xIsM iv k = 0 → mm < 2 ∧ k = nI mm) (x : Int32) (sz : Nat) (hsz : mm < 2 → iv (28 + 2 * 0 + mm) 2 = nI sz) (hs4 : sz ≤ 4) : kMi l yX6_inSet wX6_inSet ({ frames := 1, cells := 0, slots := 0, locals := 21 }) D vwCl (kT gc) 42 (kE gc) [.ref (ad 0), .int k, .int x] (ad, ln, iv, lv) (ad, ln, iv, lv) (r_xInSet iv k mm x) := by
  refine ki_start (cc := cX6_inSet) (maxL := 3) (ret := (some .int)) (by decide) rfl (Nat.le_of_ble_eq_true rfl) ?_
  intro p9 e9 s m9 below meth c9 A ls hx hb hr hts hown hlocks hml hA hK hP hD hS hl
  have hl : lv_has ls 3 [(0, .ref (ad 0)), (1, .int k), (2, .int x)] := hl
  have hown : s.vm.findClass "MonitorWays" = some m9.cls := hown
  have hin_X6 : ∀ w ∈ u_ws "MonitorWays" TX6 4, w ∈ wX6_inSet := fun w h => tcons (inX6 w h)
  have hin_X0 : ∀ w ∈ u_ws "MonitorWays$Machine" TX0 3, w ∈ wX6_inSet := fun w h => tcons (inX0 w h)
  have lk_f21 := hts _ (tcons tw_207)
  have lk_f85 := hts _ (tcons tw_129)
  refine lv_iload_n hx hb dX6_inSet_0 rfl (lv_at hl 1 rfl) ?_
  refine kr_callSi (As := [.int k]) (rest := []) ⟨hx, hb, hml, hown, hts⟩ (c_xIsM l D gc ad ln iv lv k) (cwS 1 hts (goodS (fun _ h => tcons h) tw_229 tw_230 tw_1 tw_231) rfl rfl rfl (by decide +kernel) ⟨Nat.le_of_ble_eq_true rfl, Nat.le_of_ble_eq_true rfl⟩) hK hP hD hS hA rfl hl.1 rfl (Nat.le_of_ble_eq_true rfl) dX6_inSet_1 ⟨Nat.le_of_ble_eq_true rfl, Nat.le_of_ble_eq_true rfl⟩ (fun H locs hP hD hS => ?_)
  refine lv_if_eq (tgt := 23) hx hb dX6_inSet_4 (by decide) (fun c_1 => ?_) (fun c_1 => ?_)
  · refine lv_iconst (v := (-1)) hx hb dX6_inSet_23 (by decide) ?_
    exact kr_iret hx hb hr hlocks hK hP hD hS (by unfold r_xInSet; rw [if_pos c_1]) rfl dX6_inSet_24
  · obtain ⟨hm2, hmk⟩ := hm c_1
    refine lv_aload_n hx hb dX6_inSet_7 rfl (lv_at hl 0 rfl) ?_
    refine kr_get (C := "MonitorWays") (T := TX6) (N := 4) hx hb hts hin_X6 hown hK hP 0 (by decide) (E_main _ _ _ _) rfl 1 (by decide) lk_f21 (fun _ h9 => h9) rfl dX6_inSet_8 ?_
    refine kr_get (C := "MonitorWays$Machine") (T := TX0) (N := 3) hx hb hts hin_X0 hown hK hP (14 + 0) (by omega) (E_mach (by decide) _ _ _ _) rfl 1 (by decide) lk_f85 (fun _ h9 => h9) rfl dX6_inSet_11 ?_
    refine lv_iload_n hx hb dX6_inSet_14 rfl (lv_at hl 1 rfl) ?_
    refine kr_topi (y := nI mm) hmk ?_
    refine kr_aald (a := ad (28 + 2 * 0 + mm)) hx hb hK hP (18 + 0) 5 (by omega) (E_marr (by decide) _ _ _ _) rfl (vp_in_nI (n := mm) (by omega) (by decide)) (by rw [nI_clamp (show mm < 2 ^ 31 by omega)]) dX6_inSet_15 ?_
    refine lv_iload_n hx hb dX6_inSet_16 rfl (lv_at hl 2 rfl) ?_
    refine kr_callVi (As := [.int x]) (rest := []) ⟨hx, hb, hml, hown, hts⟩ (c_mWaiter l D gc ad ln iv lv 0 mm (by decide) (by omega) x sz (hsz hm2) hs4) (cwV 1 hts (goodV (fun _ h => tcons h) tw_406 tw_317 tw_318 tw_5 tw_319) rfl rfl rfl (by decide +kernel) ⟨Nat.le_of_ble_eq_true rfl, Nat.le_of_ble_eq_true rfl⟩) (kr_recv hK hP (28 + 2 * 0 + mm) (by omega) (E_mon (mi := 0) (m := mm) (by decide) (by omega) _ _ _ _) rfl) hK hP hD hS hA rfl hl.1 rfl (Nat.le_of_ble_eq_true rfl) dX6_inSet_17 ⟨Nat.le_of_ble_eq_true rfl, Nat.le_of_ble_eq_true rfl⟩ (fun H locs hP hD hS => ?_)
    refine lv_goto (tgt := 24) hx hb dX6_inSet_20 (by decide) ?_
    exact kr_iret hx hb hr hlocks hK hP hD hS (by unfold r_xInSet; rw [if_neg c_1]) rfl dX6_inSet_24
def r_xOwner (iv : Nat → Nat → Int32) (k : Int32) (mm : Nat) : Int32 := if (r_xIsM iv k) = 0 then (-1) else if (r_mIsFree iv 0 mm) = 0 then iv (28 + 2 * 0 + mm) 0 else (-1)
set_option maxHeartbeats 4000000 in
set_option maxRecDepth 100000 in
theorem c_xOwner (l : Launch) (D : va_G) (gc : Nat → ClassId) (ad ln : Nat → Nat) (iv : Nat → Nat → Int32) (lv : Nat → Nat → Int64) (k : Int32) (mm : Nat) (hm : ¬ r_xIsM iv k = 0 → mm < 2 ∧ k = nI mm) : kMi l yX6_owner wX6_owner ({ frames := 1, cells := 0, slots := 0, locals := 20 }) D vwCl (kT gc) 42 (kE gc) [.ref (ad 0), .int k] (ad, ln, iv, lv) (ad, ln, iv, lv) (r_xOwner iv k mm) := by
  refine ki_start (cc := cX6_owner) (maxL := 2) (ret := (some .int)) (by decide) rfl (Nat.le_of_ble_eq_true rfl) ?_
  intro p9 e9 s m9 below meth c9 A ls hx hb hr hts hown hlocks hml hA hK hP hD hS hl
  have hl : lv_has ls 2 [(0, .ref (ad 0)), (1, .int k)] := hl
  have hown : s.vm.findClass "MonitorWays" = some m9.cls := hown
  have hin_X6 : ∀ w ∈ u_ws "MonitorWays" TX6 4, w ∈ wX6_owner := fun w h => tcons (inX6 w h)
  have hin_X0 : ∀ w ∈ u_ws "MonitorWays$Machine" TX0 3, w ∈ wX6_owner := fun w h => tcons (inX0 w h)
  have hin_X1 : ∀ w ∈ u_ws "MonitorWays$Monitor" TX1 4, w ∈ wX6_owner := fun w h => tcons (inX1 w h)
  have lk_f21 := hts _ (tcons tw_207)
  have lk_f85 := hts _ (tcons tw_129)
  have lk_f95 := hts _ (tcons tw_94)
  refine lv_iload_n hx hb dX6_owner_0 rfl (lv_at hl 1 rfl) ?_
  refine kr_callSi (As := [.int k]) (rest := []) ⟨hx, hb, hml, hown, hts⟩ (c_xIsM l D gc ad ln iv lv k) (cwS 1 hts (goodS (fun _ h => tcons h) tw_229 tw_230 tw_1 tw_231) rfl rfl rfl (by decide +kernel) ⟨Nat.le_of_ble_eq_true rfl, Nat.le_of_ble_eq_true rfl⟩) hK hP hD hS hA rfl hl.1 rfl (Nat.le_of_ble_eq_true rfl) dX6_owner_1 ⟨Nat.le_of_ble_eq_true rfl, Nat.le_of_ble_eq_true rfl⟩ (fun H locs hP hD hS => ?_)
  refine lv_if_eq (tgt := 22) hx hb dX6_owner_4 (by decide) (fun c_1 => ?_) (fun c_1 => ?_)
  · refine lv_iconst (v := (-1)) hx hb dX6_owner_22 (by decide) ?_
    exact kr_iret hx hb hr hlocks hK hP hD hS (by unfold r_xOwner; rw [if_pos c_1]) rfl dX6_owner_23
  · obtain ⟨hm2, hmk⟩ := hm c_1
    refine lv_aload_n hx hb dX6_owner_7 rfl (lv_at hl 0 rfl) ?_
    refine kr_get (C := "MonitorWays") (T := TX6) (N := 4) hx hb hts hin_X6 hown hK hP 0 (by decide) (E_main _ _ _ _) rfl 1 (by decide) lk_f21 (fun _ h9 => h9) rfl dX6_owner_8 ?_
    refine kr_get (C := "MonitorWays$Machine") (T := TX0) (N := 3) hx hb hts hin_X0 hown hK hP (14 + 0) (by omega) (E_mach (by decide) _ _ _ _) rfl 1 (by decide) lk_f85 (fun _ h9 => h9) rfl dX6_owner_11 ?_
    refine lv_iload_n hx hb dX6_owner_14 rfl (lv_at hl 1 rfl) ?_
    refine kr_topi (y := nI mm) hmk ?_
    refine kr_aald (a := ad (28 + 2 * 0 + mm)) hx hb hK hP (18 + 0) 5 (by omega) (E_marr (by decide) _ _ _ _) rfl (vp_in_nI (n := mm) (by omega) (by decide)) (by rw [nI_clamp (show mm < 2 ^ 31 by omega)]) dX6_owner_15 ?_
    refine kr_callVi (As := []) (rest := []) ⟨hx, hb, hml, hown, hts⟩ (c_mIsFree l D gc ad ln iv lv 0 mm (by decide) (by omega)) (cwV 0 hts (goodV (fun _ h => tcons h) tw_397 tw_273 tw_274 tw_5 tw_275) rfl rfl rfl (by decide +kernel) ⟨Nat.le_of_ble_eq_true rfl, Nat.le_of_ble_eq_true rfl⟩) (kr_recv hK hP (28 + 2 * 0 + mm) (by omega) (E_mon (mi := 0) (m := mm) (by decide) (by omega) _ _ _ _) rfl) hK hP hD hS hA rfl hl.1 rfl (Nat.le_of_ble_eq_true rfl) dX6_owner_16 ⟨Nat.le_of_ble_eq_true rfl, Nat.le_of_ble_eq_true rfl⟩ (fun H locs hP hD hS => ?_)
    refine lv_if_eq (tgt := 24) hx hb dX6_owner_19 (by decide) (fun c_2 => ?_) (fun c_2 => ?_)
    · refine lv_aload_n hx hb dX6_owner_24 rfl (lv_at hl 0 rfl) ?_
      refine kr_get (C := "MonitorWays") (T := TX6) (N := 4) hx hb hts hin_X6 hown hK hP 0 (by decide) (E_main _ _ _ _) rfl 1 (by decide) lk_f21 (fun _ h9 => h9) rfl dX6_owner_25 ?_
      refine kr_get (C := "MonitorWays$Machine") (T := TX0) (N := 3) hx hb hts hin_X0 hown hK hP (14 + 0) (by omega) (E_mach (by decide) _ _ _ _) rfl 1 (by decide) lk_f85 (fun _ h9 => h9) rfl dX6_owner_28 ?_
      refine lv_iload_n hx hb dX6_owner_31 rfl (lv_at hl 1 rfl) ?_
      refine kr_topi (y := nI mm) hmk ?_
      refine kr_aald (a := ad (28 + 2 * 0 + mm)) hx hb hK hP (18 + 0) 5 (by omega) (E_marr (by decide) _ _ _ _) rfl (vp_in_nI (n := mm) (by omega) (by decide)) (by rw [nI_clamp (show mm < 2 ^ 31 by omega)]) dX6_owner_32 ?_
      refine kr_get (C := "MonitorWays$Monitor") (T := TX1) (N := 4) hx hb hts hin_X1 hown hK hP (28 + 2 * 0 + mm) (by omega) (E_mon (mi := 0) (m := mm) (by decide) (by omega) _ _ _ _) rfl 0 (by decide) lk_f95 (fun _ h9 => h9) rfl dX6_owner_33 ?_
      exact kr_iret hx hb hr hlocks hK hP hD hS (by unfold r_xOwner; rw [if_neg c_1, if_pos c_2]) rfl dX6_owner_36
    · refine lv_iconst (v := (-1)) hx hb dX6_owner_22 (by decide) ?_
      exact kr_iret hx hb hr hlocks hK hP hD hS (by unfold r_xOwner; rw [if_neg c_1, if_neg c_2]) rfl dX6_owner_23
def r_xCount (iv : Nat → Nat → Int32) (k : Int32) : Int32 := if k = 0 then iv 0 3 else if k = 1 then iv 36 3 else if k = 2 then iv 36 4 else if k = 3 then iv 36 5 else if k = 4 then iv 36 6 else (-1)
set_option maxHeartbeats 4000000 in
set_option maxRecDepth 100000 in
theorem c_xCount (l : Launch) (D : va_G) (gc : Nat → ClassId) (ad ln : Nat → Nat) (iv : Nat → Nat → Int32) (lv : Nat → Nat → Int64) (k : Int32) : kMi l yX6_count wX6_count ({ frames := 0, cells := 0, slots := 0, locals := 0 }) D vwCl (kT gc) 42 (kE gc) [.ref (ad 0), .int k] (ad, ln, iv, lv) (ad, ln, iv, lv) (r_xCount iv k) := by
  refine ki_start (cc := cX6_count) (maxL := 2) (ret := (some .int)) (by decide) rfl (Nat.le_of_ble_eq_true rfl) ?_
  intro p9 e9 s m9 below meth c9 A ls hx hb hr hts hown hlocks hml hA hK hP hD hS hl
  have hl : lv_has ls 2 [(0, .ref (ad 0)), (1, .int k)] := hl
  have hown : s.vm.findClass "MonitorWays" = some m9.cls := hown
  have hin_X6 : ∀ w ∈ u_ws "MonitorWays" TX6 4, w ∈ wX6_count := fun w h => tcons (inX6 w h)
  have hin_X3 : ∀ w ∈ u_ws "MonitorWays$Search" TX3 11, w ∈ wX6_count := fun w h => tcons (inX3 w h)
  have lk_f65 := hts _ (tcons tw_209)
  have lk_f30 := hts _ (tcons tw_208)
  have lk_f122 := hts _ (tcons tw_172)
  have lk_f125 := hts _ (tcons tw_174)
  have lk_f128 := hts _ (tcons tw_176)
  have lk_f131 := hts _ (tcons tw_178)
  refine lv_iload_n hx hb dX6_count_0 rfl (lv_at hl 1 rfl) ?_
  by_cases c_1 : k = 0
  · refine lv_tableIn (tgt := 36) (off := 35) hx hb dX6_count_1 (by rw [c_1]; decide) (by rw [c_1]; decide) (by rw [c_1]; decide) (by decide) ?_
    refine lv_aload_n hx hb dX6_count_36 rfl (lv_at hl 0 rfl) ?_
    refine kr_get (C := "MonitorWays") (T := TX6) (N := 4) hx hb hts hin_X6 hown hK hP 0 (by decide) (E_main _ _ _ _) rfl 3 (by decide) lk_f65 (fun _ h9 => h9) rfl dX6_count_37 ?_
    exact kr_iret hx hb hr hlocks hK hP hD hS (by unfold r_xCount; rw [if_pos c_1]) rfl dX6_count_40
  by_cases c_2 : k = 1
  · refine lv_tableIn (tgt := 41) (off := 40) hx hb dX6_count_1 (by rw [c_2]; decide) (by rw [c_2]; decide) (by rw [c_2]; decide) (by decide) ?_
    refine lv_aload_n hx hb dX6_count_41 rfl (lv_at hl 0 rfl) ?_
    refine kr_get (C := "MonitorWays") (T := TX6) (N := 4) hx hb hts hin_X6 hown hK hP 0 (by decide) (E_main _ _ _ _) rfl 2 (by decide) lk_f30 (fun _ h9 => h9) rfl dX6_count_42 ?_
    refine kr_get (C := "MonitorWays$Search") (T := TX3) (N := 11) hx hb hts hin_X3 hown hK hP 36 (by decide) (E_srch _ _ _ _) rfl 3 (by decide) lk_f122 (fun _ h9 => h9) rfl dX6_count_45 ?_
    exact kr_iret hx hb hr hlocks hK hP hD hS (by unfold r_xCount; rw [if_neg c_1, if_pos c_2]) rfl dX6_count_48
  by_cases c_3 : k = 2
  · refine lv_tableIn (tgt := 49) (off := 48) hx hb dX6_count_1 (by rw [c_3]; decide) (by rw [c_3]; decide) (by rw [c_3]; decide) (by decide) ?_
    refine lv_aload_n hx hb dX6_count_49 rfl (lv_at hl 0 rfl) ?_
    refine kr_get (C := "MonitorWays") (T := TX6) (N := 4) hx hb hts hin_X6 hown hK hP 0 (by decide) (E_main _ _ _ _) rfl 2 (by decide) lk_f30 (fun _ h9 => h9) rfl dX6_count_50 ?_
    refine kr_get (C := "MonitorWays$Search") (T := TX3) (N := 11) hx hb hts hin_X3 hown hK hP 36 (by decide) (E_srch _ _ _ _) rfl 4 (by decide) lk_f125 (fun _ h9 => h9) rfl dX6_count_53 ?_
    exact kr_iret hx hb hr hlocks hK hP hD hS (by unfold r_xCount; rw [if_neg c_1, if_neg c_2, if_pos c_3]) rfl dX6_count_56
  by_cases c_4 : k = 3
  · refine lv_tableIn (tgt := 57) (off := 56) hx hb dX6_count_1 (by rw [c_4]; decide) (by rw [c_4]; decide) (by rw [c_4]; decide) (by decide) ?_
    refine lv_aload_n hx hb dX6_count_57 rfl (lv_at hl 0 rfl) ?_
    refine kr_get (C := "MonitorWays") (T := TX6) (N := 4) hx hb hts hin_X6 hown hK hP 0 (by decide) (E_main _ _ _ _) rfl 2 (by decide) lk_f30 (fun _ h9 => h9) rfl dX6_count_58 ?_
    refine kr_get (C := "MonitorWays$Search") (T := TX3) (N := 11) hx hb hts hin_X3 hown hK hP 36 (by decide) (E_srch _ _ _ _) rfl 5 (by decide) lk_f128 (fun _ h9 => h9) rfl dX6_count_61 ?_
    exact kr_iret hx hb hr hlocks hK hP hD hS (by unfold r_xCount; rw [if_neg c_1, if_neg c_2, if_neg c_3, if_pos c_4]) rfl dX6_count_64
  by_cases c_5 : k = 4
  · refine lv_tableIn (tgt := 65) (off := 64) hx hb dX6_count_1 (by rw [c_5]; decide) (by rw [c_5]; decide) (by rw [c_5]; decide) (by decide) ?_
    refine lv_aload_n hx hb dX6_count_65 rfl (lv_at hl 0 rfl) ?_
    refine kr_get (C := "MonitorWays") (T := TX6) (N := 4) hx hb hts hin_X6 hown hK hP 0 (by decide) (E_main _ _ _ _) rfl 2 (by decide) lk_f30 (fun _ h9 => h9) rfl dX6_count_66 ?_
    refine kr_get (C := "MonitorWays$Search") (T := TX3) (N := 11) hx hb hts hin_X3 hown hK hP 36 (by decide) (E_srch _ _ _ _) rfl 6 (by decide) lk_f131 (fun _ h9 => h9) rfl dX6_count_69 ?_
    exact kr_iret hx hb hr hlocks hK hP hD hS (by unfold r_xCount; rw [if_neg c_1, if_neg c_2, if_neg c_3, if_neg c_4, if_pos c_5]) rfl dX6_count_72
  refine lv_tableOut (tgt := 73) hx hb dX6_count_1 (sw_0_4 c_1 c_2 c_3 c_4 c_5) (by decide) ?_
  refine lv_iconst (v := (-1)) hx hb dX6_count_73 (by decide) ?_
  exact kr_iret hx hb hr hlocks hK hP hD hS (by unfold r_xCount; rw [if_neg c_1, if_neg c_2, if_neg c_3, if_neg c_4, if_neg c_5]) rfl dX6_count_74
def r_xBlock (iv : Nat → Nat → Int32) (tt : Int32) (t : Nat) : Int32 := if (r_xIsT iv tt) = 0 then 0 else (if iv 37 t = 0 then (0 : Int32) else 1)
theorem nb_xBlock (iv : Nat → Nat → Int32) (tt : Int32) (t : Nat) : narrow .boolean (.int (r_xBlock iv tt t)) = .int (r_xBlock iv tt t) := by
  unfold r_xBlock; repeat' split
  all_goals rfl
set_option maxHeartbeats 4000000 in
set_option maxRecDepth 100000 in
theorem c_xBlock (l : Launch) (D : va_G) (gc : Nat → ClassId) (ad ln : Nat → Nat) (iv : Nat → Nat → Int32) (lv : Nat → Nat → Int64) (tt : Int32) (t : Nat) (ht : ¬ r_xIsT iv tt = 0 → t < 4 ∧ tt = nI t) : kMi l yX6_mayBlock wX6_mayBlock ({ frames := 1, cells := 0, slots := 0, locals := 20 }) D vwCl (kT gc) 42 (kE gc) [.ref (ad 0), .int tt] (ad, ln, iv, lv) (ad, ln, iv, lv) (r_xBlock iv tt t) := by
  refine ki_start (cc := cX6_mayBlock) (maxL := 2) (ret := (some .boolean)) (by decide) rfl (Nat.le_of_ble_eq_true rfl) ?_
  intro p9 e9 s m9 below meth c9 A ls hx hb hr hts hown hlocks hml hA hK hP hD hS hl
  have hl : lv_has ls 2 [(0, .ref (ad 0)), (1, .int tt)] := hl
  have hown : s.vm.findClass "MonitorWays" = some m9.cls := hown
  have hin_X6 : ∀ w ∈ u_ws "MonitorWays" TX6 4, w ∈ wX6_mayBlock := fun w h => tcons (inX6 w h)
  have hin_X3 : ∀ w ∈ u_ws "MonitorWays$Search" TX3 11, w ∈ wX6_mayBlock := fun w h => tcons (inX3 w h)
  have lk_f30 := hts _ (tcons tw_208)
  have lk_f118 := hts _ (tcons tw_166)
  refine lv_iload_n hx hb dX6_mayBlock_0 rfl (lv_at hl 1 rfl) ?_
  refine kr_callSi (As := [.int tt]) (rest := []) ⟨hx, hb, hml, hown, hts⟩ (c_xIsT l D gc ad ln iv lv tt) (cwS 1 hts (goodS (fun _ h => tcons h) tw_223 tw_224 tw_1 tw_225) rfl rfl rfl (by decide +kernel) ⟨Nat.le_of_ble_eq_true rfl, Nat.le_of_ble_eq_true rfl⟩) hK hP hD hS hA rfl hl.1 rfl (Nat.le_of_ble_eq_true rfl) dX6_mayBlock_1 ⟨Nat.le_of_ble_eq_true rfl, Nat.le_of_ble_eq_true rfl⟩ (fun H locs hP hD hS => ?_)
  refine lv_if_eq (tgt := 23) hx hb dX6_mayBlock_4 (by decide) (fun c_1 => ?_) (fun c_1 => ?_)
  · refine lv_iconst (v := 0) hx hb dX6_mayBlock_23 (by decide) ?_
    exact kr_zret hx hb hr hlocks hK hP hD hS (by decide) (by unfold r_xBlock; rw [if_pos c_1]) rfl dX6_mayBlock_24
  · obtain ⟨ht4, htt⟩ := ht c_1
    refine lv_aload_n hx hb dX6_mayBlock_7 rfl (lv_at hl 0 rfl) ?_
    refine kr_get (C := "MonitorWays") (T := TX6) (N := 4) hx hb hts hin_X6 hown hK hP 0 (by decide) (E_main _ _ _ _) rfl 2 (by decide) lk_f30 (fun _ h9 => h9) rfl dX6_mayBlock_8 ?_
    refine kr_get (C := "MonitorWays$Search") (T := TX3) (N := 11) hx hb hts hin_X3 hown hK hP 36 (by decide) (E_srch _ _ _ _) rfl 0 (by decide) lk_f118 (fun _ h9 => h9) rfl dX6_mayBlock_11 ?_
    refine lv_iload_n hx hb dX6_mayBlock_14 rfl (lv_at hl 1 rfl) ?_
    refine kr_topi (y := nI t) htt ?_
    refine kr_zaldN hx hb hK hP 37 1 (by decide) (E_blk _ _ _ _) rfl (j := t) (by omega) (by decide) dX6_mayBlock_15 ?_
    refine kr_tern (M := 24) (cnd := iv 37 t = 0) (a := 0) (b := 1) (rest := []) (fun ja jb => ?_) ?_
    · refine lv_if_eq (tgt := 23) hx hb dX6_mayBlock_16 (by decide) (fun c_2 => ?_) (fun c_2 => ?_)
      · refine lv_iconst (v := 0) hx hb dX6_mayBlock_23 (by decide) ?_
        exact ja c_2
      · refine lv_iconst (v := 1) hx hb dX6_mayBlock_19 (by decide) ?_
        refine lv_goto (tgt := 24) hx hb dX6_mayBlock_20 (by decide) ?_
        exact jb c_2
    exact kr_zret hx hb hr hlocks hK hP hD hS (nb_ite (by decide) (by decide)) (by unfold r_xBlock; rw [if_neg c_1]) rfl dX6_mayBlock_24
def r_xAllowed (iv : Nat → Nat → Int32) (tt : Int32) (t : Nat) (way : Int32) (mm u : Nat) : Int32 := if (r_xIsT iv tt) = 0 then 0 else if (r_xIsW iv way) = 0 then 0 else (if (r_aMay iv 0 t mm u way) = 0 then (0 : Int32) else 1)
theorem nb_xAllowed (iv : Nat → Nat → Int32) (tt : Int32) (t : Nat) (way : Int32) (mm u : Nat) : narrow .boolean (.int (r_xAllowed iv tt t way mm u)) = .int (r_xAllowed iv tt t way mm u) := by
  unfold r_xAllowed; repeat' split
  all_goals rfl
set_option maxHeartbeats 4000000 in
set_option maxRecDepth 100000 in
theorem c_xAllowed (l : Launch) (D : va_G) (gc : Nat → ClassId) (ad ln : Nat → Nat) (iv : Nat → Nat → Int32) (lv : Nat → Nat → Int64) (tt : Int32) (t : Nat) (ht : ¬ r_xIsT iv tt = 0 → t < 4 ∧ tt = nI t) (way : Int32) (mm u : Nat) (hmm : mm < 2) (hu : u < 4) (hT : t < 4 → okT iv 0 t mm u) : kMi l yX6_allowed wX6_allowed ({ frames := 4, cells := 0, slots := 0, locals := 89 }) D vwCl (kT gc) 42 (kE gc) [.ref (ad 0), .int tt, .int way] (ad, ln, iv, lv) (ad, ln, iv, lv) (r_xAllowed iv tt t way mm u) := by
  refine ki_start (cc := cX6_allowed) (maxL := 3) (ret := (some .boolean)) (by decide) rfl (Nat.le_of_ble_eq_true rfl) ?_
  intro p9 e9 s m9 below meth c9 A ls hx hb hr hts hown hlocks hml hA hK hP hD hS hl
  have hl : lv_has ls 3 [(0, .ref (ad 0)), (1, .int tt), (2, .int way)] := hl
  have hown : s.vm.findClass "MonitorWays" = some m9.cls := hown
  have hin_X6 : ∀ w ∈ u_ws "MonitorWays" TX6 4, w ∈ wX6_allowed := fun w h => tcons (inX6 w h)
  have lk_f21 := hts _ (tcons tw_207)
  refine lv_iload_n hx hb dX6_allowed_0 rfl (lv_at hl 1 rfl) ?_
  refine kr_callSi (As := [.int tt]) (rest := []) ⟨hx, hb, hml, hown, hts⟩ (c_xIsT l D gc ad ln iv lv tt) (cwS 1 hts (goodS (fun _ h => tcons h) tw_223 tw_224 tw_1 tw_225) rfl rfl rfl (by decide +kernel) ⟨Nat.le_of_ble_eq_true rfl, Nat.le_of_ble_eq_true rfl⟩) hK hP hD hS hA rfl hl.1 rfl (Nat.le_of_ble_eq_true rfl) dX6_allowed_1 ⟨Nat.le_of_ble_eq_true rfl, Nat.le_of_ble_eq_true rfl⟩ (fun H locs hP hD hS => ?_)
  refine lv_if_eq (tgt := 30) hx hb dX6_allowed_4 (by decide) (fun c_1 => ?_) (fun c_1 => ?_)
  · refine lv_iconst (v := 0) hx hb dX6_allowed_30 (by decide) ?_
    exact kr_zret hx hb hr hlocks hK hP hD hS (by decide) (by unfold r_xAllowed; rw [if_pos c_1]) rfl dX6_allowed_31
  · obtain ⟨ht4, htt⟩ := ht c_1
    refine lv_iload_n hx hb dX6_allowed_7 rfl (lv_at hl 2 rfl) ?_
    refine kr_callSi (As := [.int way]) (rest := []) ⟨hx, hb, hml, hown, hts⟩ (c_xIsW l D gc ad ln iv lv way) (cwS 1 hts (goodS (fun _ h => tcons h) tw_249 tw_250 tw_1 tw_251) rfl rfl rfl (by decide +kernel) ⟨Nat.le_of_ble_eq_true rfl, Nat.le_of_ble_eq_true rfl⟩) hK hP hD hS hA rfl hl.1 rfl (Nat.le_of_ble_eq_true rfl) dX6_allowed_8 ⟨Nat.le_of_ble_eq_true rfl, Nat.le_of_ble_eq_true rfl⟩ (fun H locs hP hD hS => ?_)
    refine lv_if_eq (tgt := 30) hx hb dX6_allowed_11 (by decide) (fun c_2 => ?_) (fun c_2 => ?_)
    · refine lv_iconst (v := 0) hx hb dX6_allowed_30 (by decide) ?_
      exact kr_zret hx hb hr hlocks hK hP hD hS (by decide) (by unfold r_xAllowed; rw [if_neg c_1, if_pos c_2]) rfl dX6_allowed_31
    · refine lv_aload_n hx hb dX6_allowed_14 rfl (lv_at hl 0 rfl) ?_
      refine kr_get (C := "MonitorWays") (T := TX6) (N := 4) hx hb hts hin_X6 hown hK hP 0 (by decide) (E_main _ _ _ _) rfl 1 (by decide) lk_f21 (fun _ h9 => h9) rfl dX6_allowed_15 ?_
      refine lv_iload_n hx hb dX6_allowed_18 rfl (lv_at hl 1 rfl) ?_
      refine kr_topi (y := nI t) htt ?_
      refine lv_iload_n hx hb dX6_allowed_19 rfl (lv_at hl 2 rfl) ?_
      refine kr_callVi (As := [.int (nI t), .int way]) (rest := []) ⟨hx, hb, hml, hown, hts⟩ (c_aMay l D gc ad ln iv lv 0 t mm u (by decide) (by omega) hmm hu way (hT ht4)) (cwV 2 hts (goodV (fun _ h => tcons h) tw_252 tw_253 tw_254 tw_3 tw_255) rfl rfl rfl (by decide +kernel) ⟨Nat.le_of_ble_eq_true rfl, Nat.le_of_ble_eq_true rfl⟩) (kr_recv hK hP (14 + 0) (by omega) (E_mach (by decide) _ _ _ _) rfl) hK hP hD hS hA rfl hl.1 rfl (Nat.le_of_ble_eq_true rfl) dX6_allowed_20 ⟨Nat.le_of_ble_eq_true rfl, Nat.le_of_ble_eq_true rfl⟩ (fun H locs hP hD hS => ?_)
      refine kr_tern (M := 31) (cnd := (r_aMay iv 0 t mm u way) = 0) (a := 0) (b := 1) (rest := []) (fun ja jb => ?_) ?_
      · refine lv_if_eq (tgt := 30) hx hb dX6_allowed_23 (by decide) (fun c_3 => ?_) (fun c_3 => ?_)
        · refine lv_iconst (v := 0) hx hb dX6_allowed_30 (by decide) ?_
          exact ja c_3
        · refine lv_iconst (v := 1) hx hb dX6_allowed_26 (by decide) ?_
          refine lv_goto (tgt := 31) hx hb dX6_allowed_27 (by decide) ?_
          exact jb c_3
      exact kr_zret hx hb hr hlocks hK hP hD hS (nb_ite (by decide) (by decide)) (by unfold r_xAllowed; rw [if_neg c_1, if_neg c_2]) rfl dX6_allowed_31
def r_xChoose (iv : Nat → Nat → Int32) (tt : Int32) (t : Nat) (way : Int32) (mm u sz : Nat) : Int32 := if (r_xIsT iv tt) = 0 then (-1) else if (r_xIsW iv way) = 0 then (-1) else if (r_aMay iv 0 t mm u way) = 0 then 0 else 1
def m_xChoose (iv : Nat → Nat → Int32) (tt : Int32) (t : Nat) (way : Int32) (mm u sz : Nat) : Nat → Nat → Int32 := if (r_xIsT iv tt) = 0 then iv else if (r_xIsW iv way) = 0 then iv else if (r_aMay iv 0 t mm u way) = 0 then iv else (up2 (m_aTake iv 0 t mm u way sz) 0 3 (((m_aTake iv 0 t mm u way sz) 0 3) + 1))
set_option maxHeartbeats 4000000 in
set_option maxRecDepth 100000 in
theorem c_xChoose (l : Launch) (D : va_G) (gc : Nat → ClassId) (ad ln : Nat → Nat) (iv : Nat → Nat → Int32) (lv : Nat → Nat → Int64) (tt : Int32) (t : Nat) (ht : ¬ r_xIsT iv tt = 0 → t < 4 ∧ tt = nI t) (way : Int32) (mm u : Nat) (hmm : mm < 2) (hu : u < 4) (hT : t < 4 → okT iv 0 t mm u) (sz : Nat) (hsz : t < 4 → iv (28 + 2 * 0 + mm) 2 = nI sz) (hs4 : sz ≤ 4) (hent : t < 4 → ∀ j, j < sz → vp_in (iv (32 + 2 * 0 + mm) j) 4) : kMi l yX6_choose wX6_choose ({ frames := 4, cells := 0, slots := 0, locals := 95 }) D vwCl (kT gc) 42 (kE gc) [.ref (ad 0), .int tt, .int way] (ad, ln, iv, lv) (ad, ln, m_xChoose iv tt t way mm u sz, lv) (r_xChoose iv tt t way mm u sz) := by
  refine ki_start (cc := cX6_choose) (maxL := 3) (ret := (some .int)) (by decide) rfl (Nat.le_of_ble_eq_true rfl) ?_
  intro p9 e9 s m9 below meth c9 A ls hx hb hr hts hown hlocks hml hA hK hP hD hS hl
  have hl : lv_has ls 3 [(0, .ref (ad 0)), (1, .int tt), (2, .int way)] := hl
  have hown : s.vm.findClass "MonitorWays" = some m9.cls := hown
  have hin_X6 : ∀ w ∈ u_ws "MonitorWays" TX6 4, w ∈ wX6_choose := fun w h => tcons (inX6 w h)
  have lk_f21 := hts _ (tcons tw_207)
  have lk_f65 := hts _ (tcons tw_209)
  refine lv_iload_n hx hb dX6_choose_0 rfl (lv_at hl 1 rfl) ?_
  refine kr_callSi (As := [.int tt]) (rest := []) ⟨hx, hb, hml, hown, hts⟩ (c_xIsT l D gc ad ln iv lv tt) (cwS 1 hts (goodS (fun _ h => tcons h) tw_223 tw_224 tw_1 tw_225) rfl rfl rfl (by decide +kernel) ⟨Nat.le_of_ble_eq_true rfl, Nat.le_of_ble_eq_true rfl⟩) hK hP hD hS hA rfl hl.1 rfl (Nat.le_of_ble_eq_true rfl) dX6_choose_1 ⟨Nat.le_of_ble_eq_true rfl, Nat.le_of_ble_eq_true rfl⟩ (fun H locs hP hD hS => ?_)
  refine lv_if_eq (tgt := 14) hx hb dX6_choose_4 (by decide) (fun c_1 => ?_) (fun c_1 => ?_)
  · refine lv_iconst (v := (-1)) hx hb dX6_choose_14 (by decide) ?_
    exact kr_iret hx hb hr hlocks hK hP hD hS (by unfold r_xChoose; rw [if_pos c_1]) (by unfold m_xChoose; rw [if_pos c_1]) dX6_choose_15
  · obtain ⟨ht4, htt⟩ := ht c_1
    refine lv_iload_n hx hb dX6_choose_7 rfl (lv_at hl 2 rfl) ?_
    refine kr_callSi (As := [.int way]) (rest := []) ⟨hx, hb, hml, hown, hts⟩ (c_xIsW l D gc ad ln iv lv way) (cwS 1 hts (goodS (fun _ h => tcons h) tw_249 tw_250 tw_1 tw_251) rfl rfl rfl (by decide +kernel) ⟨Nat.le_of_ble_eq_true rfl, Nat.le_of_ble_eq_true rfl⟩) hK hP hD hS hA rfl hl.1 rfl (Nat.le_of_ble_eq_true rfl) dX6_choose_8 ⟨Nat.le_of_ble_eq_true rfl, Nat.le_of_ble_eq_true rfl⟩ (fun H locs hP hD hS => ?_)
    refine lv_if_ne (tgt := 16) hx hb dX6_choose_11 (by decide) (fun c_2 => ?_) (fun c_2 => ?_)
    · refine lv_aload_n hx hb dX6_choose_16 rfl (lv_at hl 0 rfl) ?_
      refine kr_get (C := "MonitorWays") (T := TX6) (N := 4) hx hb hts hin_X6 hown hK hP 0 (by decide) (E_main _ _ _ _) rfl 1 (by decide) lk_f21 (fun _ h9 => h9) rfl dX6_choose_17 ?_
      refine lv_iload_n hx hb dX6_choose_20 rfl (lv_at hl 1 rfl) ?_
      refine kr_topi (y := nI t) htt ?_
      refine lv_iload_n hx hb dX6_choose_21 rfl (lv_at hl 2 rfl) ?_
      refine kr_callVi (As := [.int (nI t), .int way]) (rest := []) ⟨hx, hb, hml, hown, hts⟩ (c_aMay l D gc ad ln iv lv 0 t mm u (by decide) (by omega) hmm hu way (hT ht4)) (cwV 2 hts (goodV (fun _ h => tcons h) tw_252 tw_253 tw_254 tw_3 tw_255) rfl rfl rfl (by decide +kernel) ⟨Nat.le_of_ble_eq_true rfl, Nat.le_of_ble_eq_true rfl⟩) (kr_recv hK hP (14 + 0) (by omega) (E_mach (by decide) _ _ _ _) rfl) hK hP hD hS hA rfl hl.1 rfl (Nat.le_of_ble_eq_true rfl) dX6_choose_22 ⟨Nat.le_of_ble_eq_true rfl, Nat.le_of_ble_eq_true rfl⟩ (fun H locs hP hD hS => ?_)
      refine lv_if_ne (tgt := 30) hx hb dX6_choose_25 (by decide) (fun c_3 => ?_) (fun c_3 => ?_)
      · refine lv_aload_n hx hb dX6_choose_30 rfl (lv_at hl 0 rfl) ?_
        refine kr_get (C := "MonitorWays") (T := TX6) (N := 4) hx hb hts hin_X6 hown hK hP 0 (by decide) (E_main _ _ _ _) rfl 1 (by decide) lk_f21 (fun _ h9 => h9) rfl dX6_choose_31 ?_
        refine lv_iload_n hx hb dX6_choose_34 rfl (lv_at hl 1 rfl) ?_
        refine kr_topi (y := nI t) htt ?_
        refine lv_iload_n hx hb dX6_choose_35 rfl (lv_at hl 2 rfl) ?_
        refine kr_callVv (As := [.int (nI t), .int way]) (rest := []) ⟨hx, hb, hml, hown, hts⟩ (c_aTake l D gc ad ln iv lv 0 t mm u (by decide) (by omega) hmm hu way (hT ht4) sz (hsz ht4) hs4 (hent ht4)) (cwV 2 hts (goodV (fun _ h => tcons h) tw_292 tw_293 tw_294 tw_3 tw_295) rfl rfl rfl (by decide +kernel) ⟨Nat.le_of_ble_eq_true rfl, Nat.le_of_ble_eq_true rfl⟩) (kr_recv hK hP (14 + 0) (by omega) (E_mach (by decide) _ _ _ _) rfl) hK hP hD hS hA rfl hl.1 rfl (Nat.le_of_ble_eq_true rfl) dX6_choose_36 ⟨Nat.le_of_ble_eq_true rfl, Nat.le_of_ble_eq_true rfl⟩ (fun H locs hP hD hS => ?_)
        refine lv_aload_n hx hb dX6_choose_39 rfl (lv_at hl 0 rfl) ?_
        refine lv_dup hx hb dX6_choose_40 rfl ?_
        refine kr_get (C := "MonitorWays") (T := TX6) (N := 4) hx hb hts hin_X6 hown hK hP 0 (by decide) (E_main _ _ _ _) rfl 3 (by decide) lk_f65 (fun _ h9 => h9) rfl dX6_choose_41 ?_
        refine lv_iconst (v := 1) hx hb dX6_choose_44 (by decide) ?_
        refine lv_iadd hx hb dX6_choose_45 ?_
        refine kr_put (C := "MonitorWays") (T := TX6) (N := 4) hx hb hts hin_X6 tyX6 ok_tyX6 ok_nX6 hown hK hP hD hS 0 (by decide) (fun _ => E_main _ _ _ _) rfl 3 (by decide) lk_f65 (fun _ h9 => h9) rfl rfl rfl rfl (fun _ => Nat.le_of_ble_eq_true rfl) (fun _ => rfl) dX6_choose_46 (fun H locs hP hD hS => ?_)
        refine lv_iconst (v := 1) hx hb dX6_choose_49 (by decide) ?_
        exact kr_iret hx hb hr hlocks hK hP hD hS (by unfold r_xChoose; rw [if_neg c_1, if_neg c_2, if_neg c_3]) (by unfold m_xChoose; rw [if_neg c_1, if_neg c_2, if_neg c_3]) dX6_choose_50
      · refine lv_iconst (v := 0) hx hb dX6_choose_28 (by decide) ?_
        exact kr_iret hx hb hr hlocks hK hP hD hS (by unfold r_xChoose; rw [if_neg c_1, if_neg c_2, if_pos c_3]) (by unfold m_xChoose; rw [if_neg c_1, if_neg c_2, if_pos c_3]) dX6_choose_29
    · refine lv_iconst (v := (-1)) hx hb dX6_choose_14 (by decide) ?_
      exact kr_iret hx hb hr hlocks hK hP hD hS (by unfold r_xChoose; rw [if_neg c_1, if_pos c_2]) (by unfold m_xChoose; rw [if_neg c_1, if_pos c_2]) dX6_choose_15
