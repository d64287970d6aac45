/-! A MACHINE ALONE, as its constructor makes it: 0 programs, 1.. Program, 5 Machine, 6 workers, 7 monitors, 8.. Worker, 12.. Monitor, 14.. set -/
def zE (gc : Nat → ClassId) : KE := fun ad _ r _ c => match c with
  | 0 => .inl (gc 3, 4, .inr (.inr (.inr (.inr (fun k => some (ad (1 + k)))))))
  | 1 => .inr (2, [.ref (ad (16 + 0)), .ref (ad (20 + 0)), .int (r 2)])
  | 2 => .inr (2, [.ref (ad (16 + 1)), .ref (ad (20 + 1)), .int (r 2)])
  | 3 => .inr (2, [.ref (ad (16 + 2)), .ref (ad (20 + 2)), .int (r 2)])
  | 4 => .inr (2, [.ref (ad (16 + 3)), .ref (ad (20 + 3)), .int (r 2)])
  | 5 => .inr (0, [.ref (ad 6), .ref (ad 7), .int (r 2)])
  | 6 => .inl (gc 4, 4, .inr (.inr (.inr (.inr (fun k => some (ad (8 + k)))))))
  | 7 => .inl (gc 5, 2, .inr (.inr (.inr (.inr (fun k => some (ad (12 + k)))))))
  | 8 => .inr (5, [.int (r 0), .int (r 1), .int (r 2), .int (r 3), .int (r 4), .int (r 5), .ref (ad (1 + 0)), .int (r 7)])
  | 9 => .inr (5, [.int (r 0), .int (r 1), .int (r 2), .int (r 3), .int (r 4), .int (r 5), .ref (ad (1 + 1)), .int (r 7)])
  | 10 => .inr (5, [.int (r 0), .int (r 1), .int (r 2), .int (r 3), .int (r 4), .int (r 5), .ref (ad (1 + 2)), .int (r 7)])
  | 11 => .inr (5, [.int (r 0), .int (r 1), .int (r 2), .int (r 3), .int (r 4), .int (r 5), .ref (ad (1 + 3)), .int (r 7)])
  | 12 => .inr (1, [.int (r 0), .int (r 1), .int (r 2), .ref (ad (14 + 0))])
  | 13 => .inr (1, [.int (r 0), .int (r 1), .int (r 2), .ref (ad (14 + 1))])
  | 14 => .inl (gc 0, 4, .inl r)
  | _ => .inl (gc 0, 4, .inl r)
theorem Z_pa {gc : Nat → ClassId} (ad ln : Nat → Nat) (r : Nat → Int32) (lr : Nat → Int64) : zE gc ad ln r lr 0 = .inl (gc 3, 4, .inr (.inr (.inr (.inr (fun k => some (ad (1 + k))))))) := rfl
theorem Z_mach {gc : Nat → ClassId} (ad ln : Nat → Nat) (r : Nat → Int32) (lr : Nat → Int64) : zE gc ad ln r lr 5 = .inr (0, [.ref (ad 6), .ref (ad 7), .int (r 2)]) := rfl
theorem Z_warr {gc : Nat → ClassId} (ad ln : Nat → Nat) (r : Nat → Int32) (lr : Nat → Int64) : zE gc ad ln r lr 6 = .inl (gc 4, 4, .inr (.inr (.inr (.inr (fun k => some (ad (8 + k))))))) := rfl
theorem Z_marr {gc : Nat → ClassId} (ad ln : Nat → Nat) (r : Nat → Int32) (lr : Nat → Int64) : zE gc ad ln r lr 7 = .inl (gc 5, 2, .inr (.inr (.inr (.inr (fun k => some (ad (12 + k))))))) := rfl
theorem Z_prog {gc : Nat → ClassId} {t : Nat} (ht : t < 4) (ad ln : Nat → Nat) (r : Nat → Int32) (lr : Nat → Int64) : zE gc ad ln r lr (1 + t) = .inr (2, [.ref (ad (16 + t)), .ref (ad (20 + t)), .int (r 2)]) := by
  rcases (show t = 0 ∨ t = 1 ∨ t = 2 ∨ t = 3 by omega) with rfl | rfl | rfl | rfl <;> rfl
theorem Z_wk {gc : Nat → ClassId} {t : Nat} (ht : t < 4) (ad ln : Nat → Nat) (r : Nat → Int32) (lr : Nat → Int64) : zE gc ad ln r lr (8 + t) = .inr (5, [.int (r 0), .int (r 1), .int (r 2), .int (r 3), .int (r 4), .int (r 5), .ref (ad (1 + t)), .int (r 7)]) := by
  rcases (show t = 0 ∨ t = 1 ∨ t = 2 ∨ t = 3 by omega) with rfl | rfl | rfl | rfl <;> rfl
theorem Z_mon {gc : Nat → ClassId} {m : Nat} (hm : m < 2) (ad ln : Nat → Nat) (r : Nat → Int32) (lr : Nat → Int64) : zE gc ad ln r lr (12 + m) = .inr (1, [.int (r 0), .int (r 1), .int (r 2), .ref (ad (14 + m))]) := by
  rcases (show m = 0 ∨ m = 1 by omega) with rfl | rfl <;> rfl
def m_zwBegin (iv : Nat → Nat → Int32) (t : Nat) : Nat → Nat → Int32 := (up2 (up2 (up2 (up2 (up2 (up2 (up2 iv (8 + t) 1 0) (8 + t) 0 (if (up2 iv (8 + t) 1 0) (1 + t) 2 ≤ 0 then (4 : Int32) else 0)) (8 + t) 2 0) (8 + t) 3 0) (8 + t) 4 0) (8 + t) 5 0) (8 + t) 7 1)
set_option maxHeartbeats 4000000 in
set_option maxRecDepth 100000 in
theorem c_zwBegin (l : Launch) (D : va_G) (gc : Nat → ClassId) (ad ln : Nat → Nat) (iv : Nat → Nat → Int32) (lv : Nat → Nat → Int64) (t : Nat) (ht : t < 4) : kMv l yX5_begin wX5_begin ({ frames := 0, cells := 0, slots := 0, locals := 0 }) D vwCl (kT gc) 16 (zE gc) [.ref (ad (8 + t))] (ad, ln, iv, lv) (ad, ln, m_zwBegin iv t, lv) := by
  refine kv_start (cc := cX5_begin) (maxL := 1) (by decide) rfl (Nat.le_of_ble_eq_true rfl) ?_
  intro p9 e9 s m9 below meth c9 A ls hx hb hr hts hown hlocks hml hA hK hP hD hS hl
  have hl : lv_has ls 1 [(0, .ref (ad (8 + t)))] := hl
  have hown : s.vm.findClass "MonitorWays$Worker" = some m9.cls := hown
  have hin_X5 : ∀ w ∈ u_ws "MonitorWays$Worker" TX5 8, w ∈ wX5_begin := fun w h => tcons (inX5 w h)
  have hin_X2 : ∀ w ∈ u_ws "MonitorWays$Program" TX2 3, w ∈ wX5_begin := fun w h => tcons (inX2 w h)
  have lk_f15 := hts _ (tcons tw_59)
  have lk_f9 := hts _ (tcons tw_68)
  have lk_f19 := hts _ (tcons tw_32)
  have lk_f24 := hts _ (tcons tw_57)
  have lk_f27 := hts _ (tcons tw_60)
  have lk_f30 := hts _ (tcons tw_62)
  have lk_f34 := hts _ (tcons tw_64)
  have lk_f37 := hts _ (tcons tw_66)
  have lk_f40 := hts _ (tcons tw_69)
  refine lv_aload_n hx hb dX5_begin_0 rfl (lv_at hl 0 rfl) ?_
  refine lv_iconst (v := 0) hx hb dX5_begin_1 (by decide) ?_
  refine kr_put (C := "MonitorWays$Worker") (T := TX5) (N := 8) hx hb hts hin_X5 tyX5 ok_tyX5 ok_nX5 hown hK hP hD hS (8 + t) (by omega) (fun _ => Z_wk (t := t) ht _ _ _ _) rfl 1 (by decide) lk_f15 (fun _ h9 => h9) rfl rfl rfl rfl (fun _ => Nat.le_of_ble_eq_true rfl) (fun _ => rfl) dX5_begin_2 (fun H locs hP hD hS => ?_)
  refine lv_aload_n hx hb dX5_begin_5 rfl (lv_at hl 0 rfl) ?_
  refine lv_aload_n hx hb dX5_begin_6 rfl (lv_at hl 0 rfl) ?_
  refine kr_get (C := "MonitorWays$Worker") (T := TX5) (N := 8) hx hb hts hin_X5 hown hK hP (8 + t) (by omega) (Z_wk (t := t) ht _ _ _ _) rfl 6 (by decide) lk_f9 (fun _ h9 => h9) rfl dX5_begin_7 ?_
  refine kr_get (C := "MonitorWays$Program") (T := TX2) (N := 3) hx hb hts hin_X2 hown hK hP (1 + t) (by omega) (Z_prog ht _ _ _ _) rfl 2 (by decide) lk_f19 (fun _ h9 => h9) rfl dX5_begin_10 ?_
  refine kr_tern (M := 21) (cnd := (up2 iv (8 + t) 1 0) (1 + t) 2 ≤ 0) (a := 4) (b := 0) (rest := [.ref (ad (8 + t))]) (fun ja jb => ?_) ?_
  · refine lv_if_le (tgt := 20) hx hb dX5_begin_13 (by decide) (fun c_1 => ?_) (fun c_1 => ?_)
    · refine lv_iconst (v := 4) hx hb dX5_begin_20 (by decide) ?_
      exact ja c_1
    · refine lv_iconst (v := 0) hx hb dX5_begin_16 (by decide) ?_
      refine lv_goto (tgt := 21) hx hb dX5_begin_17 (by decide) ?_
      exact jb c_1
  refine kr_put (C := "MonitorWays$Worker") (T := TX5) (N := 8) hx hb hts hin_X5 tyX5 ok_tyX5 ok_nX5 hown hK hP hD hS (8 + t) (by omega) (fun _ => Z_wk (t := t) ht _ _ _ _) rfl 0 (by decide) lk_f24 (fun _ h9 => h9) rfl rfl rfl rfl (fun _ => Nat.le_of_ble_eq_true rfl) (fun _ => rfl) dX5_begin_21 (fun H locs hP hD hS => ?_)
  refine lv_aload_n hx hb dX5_begin_24 rfl (lv_at hl 0 rfl) ?_
  refine lv_iconst (v := 0) hx hb dX5_begin_25 (by decide) ?_
  refine kr_put (C := "MonitorWays$Worker") (T := TX5) (N := 8) hx hb hts hin_X5 tyX5 ok_tyX5 ok_nX5 hown hK hP hD hS (8 + t) (by omega) (fun _ => Z_wk (t := t) ht _ _ _ _) rfl 2 (by decide) lk_f27 (fun _ h9 => h9) rfl rfl rfl rfl (fun _ => Nat.le_of_ble_eq_true rfl) (fun _ => rfl) dX5_begin_26 (fun H locs hP hD hS => ?_)
  refine lv_aload_n hx hb dX5_begin_29 rfl (lv_at hl 0 rfl) ?_
  refine lv_iconst (v := 0) hx hb dX5_begin_30 (by decide) ?_
  refine kr_put (C := "MonitorWays$Worker") (T := TX5) (N := 8) hx hb hts hin_X5 tyX5 ok_tyX5 ok_nX5 hown hK hP hD hS (8 + t) (by omega) (fun _ => Z_wk (t := t) ht _ _ _ _) rfl 3 (by decide) lk_f30 (fun _ h9 => h9) rfl rfl (by decide) (by decide) (fun _ => Nat.le_of_ble_eq_true rfl) (fun _ => rfl) dX5_begin_31 (fun H locs hP hD hS => ?_)
  refine lv_aload_n hx hb dX5_begin_34 rfl (lv_at hl 0 rfl) ?_
  refine lv_iconst (v := 0) hx hb dX5_begin_35 (by decide) ?_
  refine kr_put (C := "MonitorWays$Worker") (T := TX5) (N := 8) hx hb hts hin_X5 tyX5 ok_tyX5 ok_nX5 hown hK hP hD hS (8 + t) (by omega) (fun _ => Z_wk (t := t) ht _ _ _ _) rfl 4 (by decide) lk_f34 (fun _ h9 => h9) rfl rfl (by decide) (by decide) (fun _ => Nat.le_of_ble_eq_true rfl) (fun _ => rfl) dX5_begin_36 (fun H locs hP hD hS => ?_)
  refine lv_aload_n hx hb dX5_begin_39 rfl (lv_at hl 0 rfl) ?_
  refine lv_iconst (v := 0) hx hb dX5_begin_40 (by decide) ?_
  refine kr_put (C := "MonitorWays$Worker") (T := TX5) (N := 8) hx hb hts hin_X5 tyX5 ok_tyX5 ok_nX5 hown hK hP hD hS (8 + t) (by omega) (fun _ => Z_wk (t := t) ht _ _ _ _) rfl 5 (by decide) lk_f37 (fun _ h9 => h9) rfl rfl (by decide) (by decide) (fun _ => Nat.le_of_ble_eq_true rfl) (fun _ => rfl) dX5_begin_41 (fun H locs hP hD hS => ?_)
  refine lv_aload_n hx hb dX5_begin_44 rfl (lv_at hl 0 rfl) ?_
  refine lv_iconst (v := 1) hx hb dX5_begin_45 (by decide) ?_
  refine kr_put (C := "MonitorWays$Worker") (T := TX5) (N := 8) hx hb hts hin_X5 tyX5 ok_tyX5 ok_nX5 hown hK hP hD hS (8 + t) (by omega) (fun _ => Z_wk (t := t) ht _ _ _ _) rfl 7 (by decide) lk_f40 (fun _ h9 => h9) rfl rfl rfl rfl (fun _ => Nat.le_of_ble_eq_true rfl) (fun _ => rfl) dX5_begin_46 (fun H locs hP hD hS => ?_)
  exact kr_vret hx hb hr hlocks hK hP hD hS rfl dX5_begin_49
def m_zmFree (iv : Nat → Nat → Int32) (m : Nat) : Nat → Nat → Int32 := (up2 (up2 iv (12 + m) 0 (-1)) (12 + m) 1 0)
set_option maxHeartbeats 4000000 in
set_option maxRecDepth 100000 in
theorem c_zmFree (l : Launch) (D : va_G) (gc : Nat → ClassId) (ad ln : Nat → Nat) (iv : Nat → Nat → Int32) (lv : Nat → Nat → Int64) (m : Nat) (hm : m < 2) : kMv l yX1_setFree wX1_setFree ({ frames := 0, cells := 0, slots := 0, locals := 0 }) D vwCl (kT gc) 16 (zE gc) [.ref (ad (12 + m))] (ad, ln, iv, lv) (ad, ln, m_zmFree iv m, lv) := by
  refine kv_start (cc := cX1_setFree) (maxL := 1) (by decide) rfl (Nat.le_of_ble_eq_true rfl) ?_
  intro p9 e9 s m9 below meth c9 A ls hx hb hr hts hown hlocks hml hA hK hP hD hS hl
  have hl : lv_has ls 1 [(0, .ref (ad (12 + m)))] := hl
  have hown : s.vm.findClass "MonitorWays$Monitor" = some m9.cls := hown
  have hin_X1 : ∀ w ∈ u_ws "MonitorWays$Monitor" TX1 4, w ∈ wX1_setFree := fun w h => tcons (inX1 w h)
  have lk_f22 := hts _ (tcons tw_92)
  have lk_f25 := hts _ (tcons tw_95)
  refine lv_aload_n hx hb dX1_setFree_0 rfl (lv_at hl 0 rfl) ?_
  refine lv_iconst (v := (-1)) hx hb dX1_setFree_1 (by decide) ?_
  refine kr_put (C := "MonitorWays$Monitor") (T := TX1) (N := 4) hx hb hts hin_X1 tyX1 ok_tyX1 ok_nX1 hown hK hP hD hS (12 + m) (by omega) (fun _ => Z_mon (m := m) hm _ _ _ _) rfl 0 (by decide) lk_f22 (fun _ h9 => h9) rfl rfl rfl rfl (fun _ => Nat.le_of_ble_eq_true rfl) (fun _ => rfl) dX1_setFree_2 (fun H locs hP hD hS => ?_)
  refine lv_aload_n hx hb dX1_setFree_5 rfl (lv_at hl 0 rfl) ?_
  refine lv_iconst (v := 0) hx hb dX1_setFree_6 (by decide) ?_
  refine kr_put (C := "MonitorWays$Monitor") (T := TX1) (N := 4) hx hb hts hin_X1 tyX1 ok_tyX1 ok_nX1 hown hK hP hD hS (12 + m) (by omega) (fun _ => Z_mon (m := m) hm _ _ _ _) rfl 1 (by decide) lk_f25 (fun _ h9 => h9) rfl rfl rfl rfl (fun _ => Nat.le_of_ble_eq_true rfl) (fun _ => rfl) dX1_setFree_7 (fun H locs hP hD hS => ?_)
  exact kr_vret hx hb hr hlocks hK hP hD hS rfl dX1_setFree_10
def m_zmBegin (iv : Nat → Nat → Int32) (m : Nat) : Nat → Nat → Int32 := (up2 (m_zmFree iv m) (12 + m) 2 0)
set_option maxHeartbeats 4000000 in
set_option maxRecDepth 100000 in
theorem c_zmBegin (l : Launch) (D : va_G) (gc : Nat → ClassId) (ad ln : Nat → Nat) (iv : Nat → Nat → Int32) (lv : Nat → Nat → Int64) (m : Nat) (hm : m < 2) : kMv l yX1_begin wX1_begin ({ frames := 1, cells := 0, slots := 0, locals := 20 }) D vwCl (kT gc) 16 (zE gc) [.ref (ad (12 + m))] (ad, ln, iv, lv) (ad, ln, m_zmBegin iv m, lv) := by
  refine kv_start (cc := cX1_begin) (maxL := 1) (by decide) rfl (Nat.le_of_ble_eq_true rfl) ?_
  intro p9 e9 s m9 below meth c9 A ls hx hb hr hts hown hlocks hml hA hK hP hD hS hl
  have hl : lv_has ls 1 [(0, .ref (ad (12 + m)))] := hl
  have hown : s.vm.findClass "MonitorWays$Monitor" = some m9.cls := hown
  have hin_X1 : ∀ w ∈ u_ws "MonitorWays$Monitor" TX1 4, w ∈ wX1_begin := fun w h => tcons (inX1 w h)
  have lk_f18 := hts _ (tcons tw_98)
  refine lv_aload_n hx hb dX1_begin_0 rfl (lv_at hl 0 rfl) ?_
  refine kr_callVv (As := []) (rest := []) ⟨hx, hb, hml, hown, hts⟩ (c_zmFree l D gc ad ln iv lv m hm) (cwV 0 hts (goodV (fun _ h => tcons h) tw_122 tw_123 tw_124 tw_5 tw_125) rfl rfl rfl (by decide +kernel) ⟨Nat.le_of_ble_eq_true rfl, Nat.le_of_ble_eq_true rfl⟩) (kr_recv hK hP (12 + m) (by omega) (Z_mon (m := m) hm _ _ _ _) rfl) hK hP hD hS hA rfl hl.1 rfl (Nat.le_of_ble_eq_true rfl) dX1_begin_1 ⟨Nat.le_of_ble_eq_true rfl, Nat.le_of_ble_eq_true rfl⟩ (fun H locs hP hD hS => ?_)
  refine lv_aload_n hx hb dX1_begin_4 rfl (lv_at hl 0 rfl) ?_
  refine lv_iconst (v := 0) hx hb dX1_begin_5 (by decide) ?_
  refine kr_put (C := "MonitorWays$Monitor") (T := TX1) (N := 4) hx hb hts hin_X1 tyX1 ok_tyX1 ok_nX1 hown hK hP hD hS (12 + m) (by omega) (fun _ => Z_mon (m := m) hm _ _ _ _) rfl 2 (by decide) lk_f18 (fun _ h9 => h9) rfl rfl rfl rfl (fun _ => Nat.le_of_ble_eq_true rfl) (fun _ => rfl) dX1_begin_6 (fun H locs hP hD hS => ?_)
  exact kr_vret hx hb hr hlocks hK hP hD hS rfl dX1_begin_9
def m_zBegin (iv : Nat → Nat → Int32) : Nat → Nat → Int32 := (m_zmBegin (m_zmBegin (m_zwBegin (m_zwBegin (m_zwBegin (m_zwBegin iv 0) 1) 2) 3) 0) 1)
set_option maxHeartbeats 4000000 in
set_option maxRecDepth 100000 in
theorem c_zBegin (l : Launch) (D : va_G) (gc : Nat → ClassId) (ad ln : Nat → Nat) (iv : Nat → Nat → Int32) (lv : Nat → Nat → Int64) : kMv l yX0_begin wX0_begin ({ frames := 2, cells := 0, slots := 0, locals := 40 }) D vwCl (kT gc) 16 (zE gc) [.ref (ad 5)] (ad, ln, iv, lv) (ad, ln, m_zBegin iv, lv) := by
  refine kv_start (cc := cX0_begin) (maxL := 2) (by decide) rfl (Nat.le_of_ble_eq_true rfl) ?_
  intro p9 e9 s m9 below meth c9 A ls hx hb hr hts hown hlocks hml hA hK hP hD hS hl
  have hl : lv_has ls 2 [(0, .ref (ad 5))] := hl
  have hown : s.vm.findClass "MonitorWays$Machine" = some m9.cls := hown
  have hin_X0 : ∀ w ∈ u_ws "MonitorWays$Machine" TX0 3, w ∈ wX0_begin := fun w h => tcons (inX0 w h)
  have lk_f11 := hts _ (tcons tw_126)
  have lk_f19 := hts _ (tcons tw_128)
  refine lv_iconst (v := 0) hx hb dX0_begin_0 (by decide) ?_
  refine lv_istore_n (lv' := [(1, .int 0), (0, .ref (ad 5))]) hx hb dX0_begin_1 rfl hl (by decide) rfl (fun ls hl => ?_)
  refine lv_iload_n hx hb dX0_begin_2 rfl (lv_at hl 0 rfl) ?_
  refine lv_iconst (v := 4) hx hb dX0_begin_3 (by decide) ?_
  refine lv_icmp_ge (tgt := 22) hx hb dX0_begin_4 (by decide) (fun c_1 => absurd c_1 (by decide)) (fun c_1 => ?_)
  refine lv_aload_n hx hb dX0_begin_7 rfl (lv_at hl 1 rfl) ?_
  refine kr_get (C := "MonitorWays$Machine") (T := TX0) (N := 3) hx hb hts hin_X0 hown hK hP 5 (by decide) (Z_mach _ _ _ _) rfl 0 (by decide) lk_f11 (fun _ h9 => h9) rfl dX0_begin_8 ?_
  refine lv_iload_n hx hb dX0_begin_11 rfl (lv_at hl 0 rfl) ?_
  refine kr_aald (a := ad (8 + 0)) hx hb hK hP 6 4 (by decide) (Z_warr _ _ _ _) rfl (vp_in_nI (n := 0) (by decide) (by decide)) rfl dX0_begin_12 ?_
  refine kr_callVv (As := []) (rest := []) ⟨hx, hb, hml, hown, hts⟩ (c_zwBegin l D gc ad ln iv lv 0 (by decide)) (cwV 0 hts (goodV (fun _ h => tcons h) tw_114 tw_115 tw_116 tw_4 tw_117) rfl rfl rfl (by decide +kernel) ⟨Nat.le_of_ble_eq_true rfl, Nat.le_of_ble_eq_true rfl⟩) (kr_recv hK hP (8 + 0) (by omega) (Z_wk (t := 0) (by decide) _ _ _ _) rfl) hK hP hD hS hA rfl hl.1 rfl (Nat.le_of_ble_eq_true rfl) dX0_begin_13 ⟨Nat.le_of_ble_eq_true rfl, Nat.le_of_ble_eq_true rfl⟩ (fun H locs hP hD hS => ?_)
  refine lv_iinc (v := 1) (lv' := [(1, .int 1), (0, .ref (ad 5))]) hx hb dX0_begin_16 hl (k := 0) rfl (by decide) (by decide) rfl (fun ls hl => ?_)
  refine lv_goto (tgt := 2) hx hb dX0_begin_19 (by decide) ?_
  refine lv_iload_n hx hb dX0_begin_2 rfl (lv_at hl 0 rfl) ?_
  refine lv_iconst (v := 4) hx hb dX0_begin_3 (by decide) ?_
  refine lv_icmp_ge (tgt := 22) hx hb dX0_begin_4 (by decide) (fun c_2 => absurd c_2 (by decide)) (fun c_2 => ?_)
  refine lv_aload_n hx hb dX0_begin_7 rfl (lv_at hl 1 rfl) ?_
  refine kr_get (C := "MonitorWays$Machine") (T := TX0) (N := 3) hx hb hts hin_X0 hown hK hP 5 (by decide) (Z_mach _ _ _ _) rfl 0 (by decide) lk_f11 (fun _ h9 => h9) rfl dX0_begin_8 ?_
  refine lv_iload_n hx hb dX0_begin_11 rfl (lv_at hl 0 rfl) ?_
  refine kr_aald (a := ad (8 + 1)) hx hb hK hP 6 4 (by decide) (Z_warr _ _ _ _) rfl (vp_in_nI (n := 1) (by decide) (by decide)) rfl dX0_begin_12 ?_
  refine kr_callVv (As := []) (rest := []) ⟨hx, hb, hml, hown, hts⟩ (c_zwBegin l D gc ad ln (m_zwBegin iv 0) lv 1 (by decide)) (cwV 0 hts (goodV (fun _ h => tcons h) tw_114 tw_115 tw_116 tw_4 tw_117) rfl rfl rfl (by decide +kernel) ⟨Nat.le_of_ble_eq_true rfl, Nat.le_of_ble_eq_true rfl⟩) (kr_recv hK hP (8 + 1) (by omega) (Z_wk (t := 1) (by decide) _ _ _ _) rfl) hK hP hD hS hA rfl hl.1 rfl (Nat.le_of_ble_eq_true rfl) dX0_begin_13 ⟨Nat.le_of_ble_eq_true rfl, Nat.le_of_ble_eq_true rfl⟩ (fun H locs hP hD hS => ?_)
  refine lv_iinc (v := 2) (lv' := [(1, .int 2), (0, .ref (ad 5))]) hx hb dX0_begin_16 hl (k := 0) rfl (by decide) (by decide) rfl (fun ls hl => ?_)
  refine lv_goto (tgt := 2) hx hb dX0_begin_19 (by decide) ?_
  refine lv_iload_n hx hb dX0_begin_2 rfl (lv_at hl 0 rfl) ?_
  refine lv_iconst (v := 4) hx hb dX0_begin_3 (by decide) ?_
  refine lv_icmp_ge (tgt := 22) hx hb dX0_begin_4 (by decide) (fun c_3 => absurd c_3 (by decide)) (fun c_3 => ?_)
  refine lv_aload_n hx hb dX0_begin_7 rfl (lv_at hl 1 rfl) ?_
  refine kr_get (C := "MonitorWays$Machine") (T := TX0) (N := 3) hx hb hts hin_X0 hown hK hP 5 (by decide) (Z_mach _ _ _ _) rfl 0 (by decide) lk_f11 (fun _ h9 => h9) rfl dX0_begin_8 ?_
  refine lv_iload_n hx hb dX0_begin_11 rfl (lv_at hl 0 rfl) ?_
  refine kr_aald (a := ad (8 + 2)) hx hb hK hP 6 4 (by decide) (Z_warr _ _ _ _) rfl (vp_in_nI (n := 2) (by decide) (by decide)) rfl dX0_begin_12 ?_
  refine kr_callVv (As := []) (rest := []) ⟨hx, hb, hml, hown, hts⟩ (c_zwBegin l D gc ad ln (m_zwBegin (m_zwBegin iv 0) 1) lv 2 (by decide)) (cwV 0 hts (goodV (fun _ h => tcons h) tw_114 tw_115 tw_116 tw_4 tw_117) rfl rfl rfl (by decide +kernel) ⟨Nat.le_of_ble_eq_true rfl, Nat.le_of_ble_eq_true rfl⟩) (kr_recv hK hP (8 + 2) (by omega) (Z_wk (t := 2) (by decide) _ _ _ _) rfl) hK hP hD hS hA rfl hl.1 rfl (Nat.le_of_ble_eq_true rfl) dX0_begin_13 ⟨Nat.le_of_ble_eq_true rfl, Nat.le_of_ble_eq_true rfl⟩ (fun H locs hP hD hS => ?_)
  refine lv_iinc (v := 3) (lv' := [(1, .int 3), (0, .ref (ad 5))]) hx hb dX0_begin_16 hl (k := 0) rfl (by decide) (by decide) rfl (fun ls hl => ?_)
  refine lv_goto (tgt := 2) hx hb dX0_begin_19 (by decide) ?_
  refine lv_iload_n hx hb dX0_begin_2 rfl (lv_at hl 0 rfl) ?_
  refine lv_iconst (v := 4) hx hb dX0_begin_3 (by decide) ?_
  refine lv_icmp_ge (tgt := 22) hx hb dX0_begin_4 (by decide) (fun c_4 => absurd c_4 (by decide)) (fun c_4 => ?_)
  refine lv_aload_n hx hb dX0_begin_7 rfl (lv_at hl 1 rfl) ?_
  refine kr_get (C := "MonitorWays$Machine") (T := TX0) (N := 3) hx hb hts hin_X0 hown hK hP 5 (by decide) (Z_mach _ _ _ _) rfl 0 (by decide) lk_f11 (fun _ h9 => h9) rfl dX0_begin_8 ?_
  refine lv_iload_n hx hb dX0_begin_11 rfl (lv_at hl 0 rfl) ?_
  refine kr_aald (a := ad (8 + 3)) hx hb hK hP 6 4 (by decide) (Z_warr _ _ _ _) rfl (vp_in_nI (n := 3) (by decide) (by decide)) rfl dX0_begin_12 ?_
  refine kr_callVv (As := []) (rest := []) ⟨hx, hb, hml, hown, hts⟩ (c_zwBegin l D gc ad ln (m_zwBegin (m_zwBegin (m_zwBegin iv 0) 1) 2) lv 3 (by decide)) (cwV 0 hts (goodV (fun _ h => tcons h) tw_114 tw_115 tw_116 tw_4 tw_117) rfl rfl rfl (by decide +kernel) ⟨Nat.le_of_ble_eq_true rfl, Nat.le_of_ble_eq_true rfl⟩) (kr_recv hK hP (8 + 3) (by omega) (Z_wk (t := 3) (by decide) _ _ _ _) rfl) hK hP hD hS hA rfl hl.1 rfl (Nat.le_of_ble_eq_true rfl) dX0_begin_13 ⟨Nat.le_of_ble_eq_true rfl, Nat.le_of_ble_eq_true rfl⟩ (fun H locs hP hD hS => ?_)
  refine lv_iinc (v := 4) (lv' := [(1, .int 4), (0, .ref (ad 5))]) hx hb dX0_begin_16 hl (k := 0) rfl (by decide) (by decide) rfl (fun ls hl => ?_)
  refine lv_goto (tgt := 2) hx hb dX0_begin_19 (by decide) ?_
  refine lv_iload_n hx hb dX0_begin_2 rfl (lv_at hl 0 rfl) ?_
  refine lv_iconst (v := 4) hx hb dX0_begin_3 (by decide) ?_
  refine lv_icmp_ge (tgt := 22) hx hb dX0_begin_4 (by decide) (fun c_5 => ?_) (fun c_5 => absurd (by decide) c_5)
  refine lv_iconst (v := 0) hx hb dX0_begin_22 (by decide) ?_
  refine lv_istore_n (lv' := [(1, .int 0), (0, .ref (ad 5))]) hx hb dX0_begin_23 rfl hl (by decide) rfl (fun ls hl => ?_)
  refine lv_iload_n hx hb dX0_begin_24 rfl (lv_at hl 0 rfl) ?_
  refine lv_iconst (v := 2) hx hb dX0_begin_25 (by decide) ?_
  refine lv_icmp_ge (tgt := 44) hx hb dX0_begin_26 (by decide) (fun c_6 => absurd c_6 (by decide)) (fun c_6 => ?_)
  refine lv_aload_n hx hb dX0_begin_29 rfl (lv_at hl 1 rfl) ?_
  refine kr_get (C := "MonitorWays$Machine") (T := TX0) (N := 3) hx hb hts hin_X0 hown hK hP 5 (by decide) (Z_mach _ _ _ _) rfl 1 (by decide) lk_f19 (fun _ h9 => h9) rfl dX0_begin_30 ?_
  refine lv_iload_n hx hb dX0_begin_33 rfl (lv_at hl 0 rfl) ?_
  refine kr_aald (a := ad (12 + 0)) hx hb hK hP 7 5 (by decide) (Z_marr _ _ _ _) rfl (vp_in_nI (n := 0) (by decide) (by decide)) rfl dX0_begin_34 ?_
  refine kr_callVv (As := []) (rest := []) ⟨hx, hb, hml, hown, hts⟩ (c_zmBegin l D gc ad ln (m_zwBegin (m_zwBegin (m_zwBegin (m_zwBegin iv 0) 1) 2) 3) lv 0 (by decide)) (cwV 0 hts (goodV (fun _ h => tcons h) tw_118 tw_119 tw_120 tw_5 tw_121) rfl rfl rfl (by decide +kernel) ⟨Nat.le_of_ble_eq_true rfl, Nat.le_of_ble_eq_true rfl⟩) (kr_recv hK hP (12 + 0) (by omega) (Z_mon (m := 0) (by decide) _ _ _ _) rfl) hK hP hD hS hA rfl hl.1 rfl (Nat.le_of_ble_eq_true rfl) dX0_begin_35 ⟨Nat.le_of_ble_eq_true rfl, Nat.le_of_ble_eq_true rfl⟩ (fun H locs hP hD hS => ?_)
  refine lv_iinc (v := 1) (lv' := [(1, .int 1), (0, .ref (ad 5))]) hx hb dX0_begin_38 hl (k := 0) rfl (by decide) (by decide) rfl (fun ls hl => ?_)
  refine lv_goto (tgt := 24) hx hb dX0_begin_41 (by decide) ?_
  refine lv_iload_n hx hb dX0_begin_24 rfl (lv_at hl 0 rfl) ?_
  refine lv_iconst (v := 2) hx hb dX0_begin_25 (by decide) ?_
  refine lv_icmp_ge (tgt := 44) hx hb dX0_begin_26 (by decide) (fun c_7 => absurd c_7 (by decide)) (fun c_7 => ?_)
  refine lv_aload_n hx hb dX0_begin_29 rfl (lv_at hl 1 rfl) ?_
  refine kr_get (C := "MonitorWays$Machine") (T := TX0) (N := 3) hx hb hts hin_X0 hown hK hP 5 (by decide) (Z_mach _ _ _ _) rfl 1 (by decide) lk_f19 (fun _ h9 => h9) rfl dX0_begin_30 ?_
  refine lv_iload_n hx hb dX0_begin_33 rfl (lv_at hl 0 rfl) ?_
  refine kr_aald (a := ad (12 + 1)) hx hb hK hP 7 5 (by decide) (Z_marr _ _ _ _) rfl (vp_in_nI (n := 1) (by decide) (by decide)) rfl dX0_begin_34 ?_
  refine kr_callVv (As := []) (rest := []) ⟨hx, hb, hml, hown, hts⟩ (c_zmBegin l D gc ad ln (m_zmBegin (m_zwBegin (m_zwBegin (m_zwBegin (m_zwBegin iv 0) 1) 2) 3) 0) lv 1 (by decide)) (cwV 0 hts (goodV (fun _ h => tcons h) tw_118 tw_119 tw_120 tw_5 tw_121) rfl rfl rfl (by decide +kernel) ⟨Nat.le_of_ble_eq_true rfl, Nat.le_of_ble_eq_true rfl⟩) (kr_recv hK hP (12 + 1) (by omega) (Z_mon (m := 1) (by decide) _ _ _ _) rfl) hK hP hD hS hA rfl hl.1 rfl (Nat.le_of_ble_eq_true rfl) dX0_begin_35 ⟨Nat.le_of_ble_eq_true rfl, Nat.le_of_ble_eq_true rfl⟩ (fun H locs hP hD hS => ?_)
  refine lv_iinc (v := 2) (lv' := [(1, .int 2), (0, .ref (ad 5))]) hx hb dX0_begin_38 hl (k := 0) rfl (by decide) (by decide) rfl (fun ls hl => ?_)
  refine lv_goto (tgt := 24) hx hb dX0_begin_41 (by decide) ?_
  refine lv_iload_n hx hb dX0_begin_24 rfl (lv_at hl 0 rfl) ?_
  refine lv_iconst (v := 2) hx hb dX0_begin_25 (by decide) ?_
  refine lv_icmp_ge (tgt := 44) hx hb dX0_begin_26 (by decide) (fun c_8 => ?_) (fun c_8 => absurd (by decide) c_8)
  exact kr_vret hx hb hr hlocks hK hP hD hS rfl dX0_begin_44
def r_zRoom (iv : Nat → Nat → Int32) (v : Int32) : Int32 := ((v / 4) * 3)
set_option maxHeartbeats 4000000 in
set_option maxRecDepth 100000 in
theorem c_zRoom (l : Launch) (D : va_G) (gc : Nat → ClassId) (ad ln : Nat → Nat) (iv : Nat → Nat → Int32) (lv : Nat → Nat → Int64) (v : Int32) : kMi l yX4_roomIn wX4_roomIn ({ frames := 0, cells := 0, slots := 0, locals := 0 }) D vwCl (kT gc) 0 (zE gc) [.int v] (ad, ln, iv, lv) (ad, ln, iv, lv) (r_zRoom iv v) := by
  refine ki_start (cc := cX4_roomIn) (maxL := 1) (ret := (some .int)) (by decide) rfl (Nat.le_of_ble_eq_true rfl) ?_
  intro p9 e9 s m9 below meth c9 A ls hx hb hr hts hown hlocks hml hA hK hP hD hS hl
  have hl : lv_has ls 1 [(0, .int v)] := hl
  have hown : s.vm.findClass "MonitorWays$States" = some m9.cls := hown
  refine lv_iload_n hx hb dX4_roomIn_0 rfl (lv_at hl 0 rfl) ?_
  refine lv_iconst (v := 4) hx hb dX4_roomIn_1 (by decide) ?_
  refine lv_idiv hx hb dX4_roomIn_2 (by decide) ?_
  refine lv_iconst (v := 3) hx hb dX4_roomIn_3 (by decide) ?_
  refine lv_imul hx hb dX4_roomIn_4 ?_
  exact kr_iret hx hb hr hlocks hK hP hD hS rfl rfl dX4_roomIn_5
