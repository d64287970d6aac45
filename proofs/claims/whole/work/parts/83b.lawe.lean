theorem law_nA {sz q : Nat} (h : q < sz) : ¬ va_A [] sz q := fun h9 => by
  rcases h9 with ⟨k, e9, h9⟩ | h9
  · simp at h9
  · omega
set_option maxHeartbeats 4000000 in
set_option maxRecDepth 100000 in
theorem whole_start {p : Program} {e : Env} {s : State} {m : MethodId} {below : List Frame} {meth : Method} {c : Code} (l : Launch) {b L : Nat} {xs : Nat → Int32} (hL : L ≤ 2049) (C0 : lw_At p s m meth c b L xs) : W p l e room_1 s m #[Value.ref b] below meth c s.heap [] 0 0 (lw_Z below #[Value.ref b] s) (entryFrame m ([Value.ref b] : List Value).toArray 4) := by
  obtain ⟨hx, hb, hr, hml, hown, hts, hX, hbl, hlocks, hgv⟩ := id C0
  have hA : ∀ q : Nat, s.heap.size ≤ q → (fun q : Nat => s.heap.size ≤ q) q := fun _ h => h
  have hbA : ¬ (fun q : Nat => s.heap.size ≤ q) b := Nat.not_le.mpr hbl
  obtain ⟨c0, i0, k0⟩ := u_known (C := "MonitorWays$Machine") (T := TX0) (N := 3) (n := 3) hts (fun w h => lwt (inX0 w h)) (hts _ (lwt tw_43))
  obtain ⟨c1, i1, k1⟩ := u_known (C := "MonitorWays$Monitor") (T := TX1) (N := 4) (n := 4) hts (fun w h => lwt (inX1 w h)) (hts _ (lwt tw_87))
  obtain ⟨c2, i2, k2⟩ := u_known (C := "MonitorWays$Program") (T := TX2) (N := 3) (n := 3) hts (fun w h => lwt (inX2 w h)) (hts _ (lwt tw_22))
  obtain ⟨c3, i3, k3⟩ := u_known (C := "MonitorWays$Search") (T := TX3) (N := 11) (n := 11) hts (fun w h => lwt (inX3 w h)) (hts _ (lwt tw_139))
  obtain ⟨c4, i4, k4⟩ := u_known (C := "MonitorWays$States") (T := TX4) (N := 3) (n := 3) hts (fun w h => lwt (inX4 w h)) (hts _ (lwt tw_145))
  obtain ⟨c5, i5, k5⟩ := u_known (C := "MonitorWays$Worker") (T := TX5) (N := 8) (n := 8) hts (fun w h => lwt (inX5 w h)) (hts _ (lwt tw_52))
  obtain ⟨c6, i6, k6⟩ := u_known (C := "MonitorWays") (T := TX6) (N := 4) (n := 4) hts (fun w h => lwt (inX6 w h)) (hts _ (lwt tw_13))
  obtain ⟨c7, i7, k7⟩ := u_known (C := "MonitorWaysModel") (T := TX7) (N := 27) (n := 27) hts (fun w h => lwt (inX7 w h)) (hts _ (lwt tw_551))
  obtain ⟨g0, ka0, co0, ha0, hb0, hc0⟩ := Cond.arrayClass_spec (hts _ (lwt tw_41))
  obtain ⟨g1, ka1, co1, ha1, hb1, hc1⟩ := Cond.arrayClass_spec (hts _ (lwt tw_163))
  obtain ⟨g2, ka2, co2, ha2, hb2, hc2⟩ := Cond.arrayClass_spec (hts _ (lwt tw_164))
  have hO3 : (Cond.arrayOver (.object "MonitorWays$Program")).before #[Value.ref b] s = true := hts _ (by decide +kernel)
  obtain ⟨co3, g3, ka3, hd3, he3, hf3, hk3, hn3⟩ := Cond.arrayOver_spec hO3
  have hO4 : (Cond.arrayOver (.object "MonitorWays$Worker")).before #[Value.ref b] s = true := hts _ (by decide +kernel)
  obtain ⟨co4, g4, ka4, hd4, he4, hf4, hk4, hn4⟩ := Cond.arrayOver_spec hO4
  have hO5 : (Cond.arrayOver (.object "MonitorWays$Monitor")).before #[Value.ref b] s = true := hts _ (by decide +kernel)
  obtain ⟨co5, g5, ka5, hd5, he5, hf5, hk5, hn5⟩ := Cond.arrayOver_spec hO5
  have hO : nAO s := ⟨va_AO.of hO3, va_AO.of hO4, va_AO.of hO5⟩
  obtain ⟨D, gc, hK⟩ : ∃ (D : va_G) (gc : Nat → ClassId), va_K D vwCl (kT gc) s := by
    refine ⟨(fun k => if k = 0 then c0 else if k = 1 then c1 else if k = 2 then c2 else if k = 3 then c3 else if k = 4 then c4 else if k = 5 then c5 else if k = 6 then c6 else c7, fun k => if k = 0 then i0 else if k = 1 then i1 else if k = 2 then i2 else if k = 3 then i3 else if k = 4 then i4 else if k = 5 then i5 else if k = 6 then i6 else i7), fun k => if k = 0 then g0 else if k = 1 then g1 else if k = 2 then g2 else if k = 3 then g3 else if k = 4 then g4 else g5, ?_, ?_⟩
    · intro k q hq
      match k, hq with
      | 0, hq => cases hq; exact k0
      | 1, hq => cases hq; exact k1
      | 2, hq => cases hq; exact k2
      | 3, hq => cases hq; exact k3
      | 4, hq => cases hq; exact k4
      | 5, hq => cases hq; exact k5
      | 6, hq => cases hq; exact k6
      | 7, hq => cases hq; exact k7
      | k + 8, hq => simp [vwCl] at hq
    · intro k q hq
      match k, hq with
      | 0, hq => cases hq; exact ⟨fun n z => ⟨fun k h => (by cases h), ka0, hb0, co0, hc0⟩, ha0⟩
      | 1, hq => cases hq; exact ⟨fun n z => ⟨fun k h => (by cases h), ka1, hb1, co1, hc1⟩, ha1⟩
      | 2, hq => cases hq; exact ⟨fun n z => ⟨fun k h => (by cases h), ka2, hb2, co2, hc2⟩, ha2⟩
      | 3, hq => cases hq; exact ⟨fun n z => ⟨fun k h => (by cases h), ka3, hf3, co3, hk3⟩, ka3, co3, hf3, hk3, hd3, hn3⟩
      | 4, hq => cases hq; exact ⟨fun n z => ⟨fun k h => (by cases h), ka4, hf4, co4, hk4⟩, ka4, co4, hf4, hk4, hd4, hn4⟩
      | 5, hq => cases hq; exact ⟨fun n z => ⟨fun k h => (by cases h), ka5, hf5, co5, hk5⟩, ka5, co5, hf5, hk5, hd5, hn5⟩
      | k + 6, hq => simp [kT] at hq
  have hS : va_S (fun q : Nat => s.heap.size ≤ q) s.heap s.heap [] := va_S.rf
  have hP : va_P D vwCl [] s.heap := fun k q h => by simp at h
  have hD : va_D (fun q : Nat => s.heap.size ≤ q) [] := ⟨fun i j p q h => by simp at h, fun k q h => by simp at h⟩
  have hl := lv_entry ([.ref b]) (n := 4) (Nat.le_of_ble_eq_true rfl)
  rw [lg_entry_eq]
  generalize (lg_sl ([.ref b]) ++ List.replicate (4 - (lg_sl ([.ref b])).length) Slot.unset).toArray = ls at hl ⊢
  have hl : lv_has ls 4 [(0, .ref b)] := hl
  refine va_new (ci := 6) (fs := [.null, .null, .null, .int 0]) (C := "MonitorWays") (T := TX6) (N := 4) hx hb hts (fun w h => lwt (inX6 w h)) tyX6 ok_tyX6 hown (hts _ (lwt tw_12)) (hts _ (lwt tw_13)) (hts _ (lwt tw_1)) hK hP hD hS hA rfl (fun j hj => by rcases (show j = 0 ∨ j = 1 ∨ j = 2 ∨ j = 3 by omega) with rfl | rfl | rfl | rfl <;> rfl) (Nat.le_of_ble_eq_true rfl) (Nat.le_of_ble_eq_true rfl) dL_law_0 (fun q1 H hP hD hS => ?_)
  have hP : va_P D vwCl [(q1, .inr (6, [.null, .null, .null, .int 0]))] H := hP
  have hD : va_D (fun q : Nat => s.heap.size ≤ q) [(q1, .inr (6, [.null, .null, .null, .int 0]))] := hD
  refine lv_dup hx hb dL_law_3 rfl ?_
  refine lv_aload_n hx hb dL_law_4 rfl (lv_at hl 0 rfl) ?_
  refine lv_iconst (v := 0) hx hb dL_law_5 (by decide) ?_
  have hF : ∀ q, va_A [] H.size q → s.heap.size ≤ q := fun q h => by
    rcases h with ⟨k, e9, h⟩ | h
    · simp at h
    · exact Nat.le_trans hS.1 h
  refine va_calli (va_runS (As := [.ref b, .int 0]) (rest := [.ref q1, .ref q1]) ⟨hx, hb, hml, hown, hts⟩ (c_cell l b L hL xs H.size) (cwS 2 hts (goodS (fun _ h => lwt h) tw_547 tw_548 tw_0 tw_549) rfl rfl rfl (by decide +kernel) ⟨Nat.le_of_ble_eq_true rfl, Nat.le_of_ble_eq_true rfl⟩) ⟨lwCB, fun U hU hW => ⟨rfl, by rw [hU], by rw [hU]; exact (hX.kept (hS.2.1 b hbl hbA)).moved hW.alike, Nat.lt_of_lt_of_le hbl hS.1⟩⟩ rfl rfl hl.1 rfl (lv_room (Nat.le_of_ble_eq_true rfl)) dL_law_6 ⟨Nat.le_of_ble_eq_true rfl, Nat.le_of_ble_eq_true rfl⟩) hS (fun q _ h => hF q h) hF (fun kd u t H1 locs ht hvm hw hB hz1 hk1 hS => ?_)
  have hP := hP.kept (fun k x hx9 => hk1 x.1 ((hP k x hx9).lt) (law_nA ((hP k x hx9).lt)))
  clear hz1 hk1 hB hF
  generalize H1 = H at hP hS ⊢
  refine kr_callN (As := [.int kd]) (rest := [.ref q1]) (wr := []) ⟨hx, hb, hml, hown, hts⟩ (c_nMain l D gc q1 kd) (cwI 1 hts (goodC (fun _ h => lwt h) tw_16) rfl rfl rfl (hts _ (lwt tw_1)) (hts _ (lwt tw_14)) (hts _ (lwt tw_15)) rfl (by decide +kernel) ⟨Nat.le_of_ble_eq_true rfl, Nat.le_of_ble_eq_true rfl⟩) hK hO hP hD hS hA [0] [] rfl rfl (by decide) (by decide) (by decide) rfl hl.1 rfl (Nat.le_of_ble_eq_true rfl) dL_law_9 ⟨Nat.le_of_ble_eq_true rfl, Nat.le_of_ble_eq_true rfl⟩ (fun u1 H locs hP hD hS => ?_)
  have hP : va_P D vwCl (mW 42 (kE gc) (kA q1 u1, kL0, kI0 (if kd = 1 then (1 : Int32) else 0), (fun _ _ => 0))) H := hP
  have hD : va_D (fun q : Nat => s.heap.size ≤ q) (mW 42 (kE gc) (kA q1 u1, kL0, kI0 (if kd = 1 then (1 : Int32) else 0), (fun _ _ => 0))) := hD
  refine lv_astore_n (lv' := [(1, .ref q1), (0, .ref b)]) hx hb dL_law_12 rfl hl (by decide) rfl (fun ls hl => ?_)
  refine va_new (ci := 7) (fs := [.int 0, .null, .null, .null, .null, .null, .null, .null, .null, .null, .null, .null, .null, .null, .null, .null, .null, .int 0, .null, .int 0, .int 0, .int 0, .int 0, .int 0, .null, .null, .int 0]) (C := "MonitorWaysModel") (T := TX7) (N := 27) hx hb hts (fun w h => lwt (inX7 w h)) tyX7 ok_tyX7 hown (hts _ (lwt tw_550)) (hts _ (lwt tw_551)) (hts _ (lwt tw_8)) hK hP hD hS hA rfl (fun j hj => by rcases (show j = 0 ∨ j = 1 ∨ j = 2 ∨ j = 3 ∨ j = 4 ∨ j = 5 ∨ j = 6 ∨ j = 7 ∨ j = 8 ∨ j = 9 ∨ j = 10 ∨ j = 11 ∨ j = 12 ∨ j = 13 ∨ j = 14 ∨ j = 15 ∨ j = 16 ∨ j = 17 ∨ j = 18 ∨ j = 19 ∨ j = 20 ∨ j = 21 ∨ j = 22 ∨ j = 23 ∨ j = 24 ∨ j = 25 ∨ j = 26 by omega) with rfl | rfl | rfl | rfl | rfl | rfl | rfl | rfl | rfl | rfl | rfl | rfl | rfl | rfl | rfl | rfl | rfl | rfl | rfl | rfl | rfl | rfl | rfl | rfl | rfl | rfl | rfl <;> rfl) (Nat.le_of_ble_eq_true rfl) (Nat.le_of_ble_eq_true rfl) dL_law_13 (fun q2 H hP hD hS => ?_)
  refine lv_dup hx hb dL_law_16 rfl ?_
  refine lv_aload_n hx hb dL_law_17 rfl (lv_at hl 1 rfl) ?_
  refine lv_iconst (v := 0) hx hb dL_law_18 (by decide) ?_
  have hF : ∀ q, va_A [] H.size q → s.heap.size ≤ q := fun q h => by
    rcases h with ⟨k, e9, h⟩ | h
    · simp at h
    · exact Nat.le_trans hS.1 h
  refine va_calli (va_runS (As := [.ref b, .int 0]) (rest := [.ref q2, .ref q2]) ⟨hx, hb, hml, hown, hts⟩ (c_cell l b L hL xs H.size) (cwS 2 hts (goodS (fun _ h => lwt h) tw_547 tw_548 tw_0 tw_549) rfl rfl rfl (by decide +kernel) ⟨Nat.le_of_ble_eq_true rfl, Nat.le_of_ble_eq_true rfl⟩) ⟨lwCB, fun U hU hW => ⟨rfl, by rw [hU], by rw [hU]; exact (hX.kept (hS.2.1 b hbl hbA)).moved hW.alike, Nat.lt_of_lt_of_le hbl hS.1⟩⟩ rfl rfl hl.1 rfl (lv_room (Nat.le_of_ble_eq_true rfl)) dL_law_19 ⟨Nat.le_of_ble_eq_true rfl, Nat.le_of_ble_eq_true rfl⟩) hS (fun q _ h => hF q h) hF (fun kd2 u t H1 locs ht hvm hw2 hB hz1 hk1 hS => ?_)
  have hP := hP.kept (fun k x hx9 => hk1 x.1 ((hP k x hx9).lt) (law_nA ((hP k x hx9).lt)))
  clear hz1 hk1 hB hF
  generalize H1 = H at hP hS ⊢
  have hkd : kd2 = kd := by rw [hw, hw2]
  subst hkd
  refine kr_callN (As := [.int kd2]) (rest := [.ref q2]) (wr := mW 42 (kE gc) (kA q1 u1, kL0, kI0 (if kd2 = 1 then (1 : Int32) else 0), (fun _ _ => 0))) ⟨hx, hb, hml, hown, hts⟩ (c_nModel l D gc q2 kd2) (cwI 1 hts (goodC (fun _ h => lwt h) tw_554) rfl rfl rfl (hts _ (lwt tw_8)) (hts _ (lwt tw_552)) (hts _ (lwt tw_553)) rfl (by decide +kernel) ⟨Nat.le_of_ble_eq_true rfl, Nat.le_of_ble_eq_true rfl⟩) hK hO hP hD hS hA ((List.range 1).map (fun i => 42 + i)) (List.range 42) (idx_r _ _ mW_len rfl) (idx_l _ _ mW_len) (by decide) nd_a idx_e rfl hl.1 rfl (Nat.le_of_ble_eq_true rfl) dL_law_22 ⟨Nat.le_of_ble_eq_true rfl, Nat.le_of_ble_eq_true rfl⟩ (fun u2 H locs hP hD hS => ?_)
  refine lv_astore_n (lv' := [(2, .ref q2), (1, .ref q1), (0, .ref b)]) hx hb dL_law_25 rfl hl (by decide) rfl (fun ls hl => ?_)
  refine lv_iconst (v := 1) hx hb dL_law_26 (by decide) ?_
  refine lv_istore_n (lv' := [(3, .int 1), (2, .ref q2), (1, .ref q1), (0, .ref b)]) hx hb dL_law_27 rfl hl (by decide) rfl (fun ls hl => ?_)
  have hlo : ∃ lo : Nat, lo ≤ 1 ∧ (if kd2 = 1 then (1 : Int32) else 0) = nI lo := by
    by_cases q : kd2 = 1
    · exact ⟨1, by decide, by rw [if_pos q]; rfl⟩
    · exact ⟨0, by decide, by rw [if_neg q]; rfl⟩
  obtain ⟨lo, hlo1, hlo2⟩ := hlo
  have hJ : lawJ kL0 (kI0 (if kd2 = 1 then (1 : Int32) else 0)) (fun _ _ => 0) (m_oReset (rI0 (if kd2 = 1 then (1 : Int32) else 0))) (n_oReset (rI0 (if kd2 = 1 then (1 : Int32) else 0)) (fun _ _ => 0)) := by rw [hlo2]; exact LJ.start hlo1
  exact law_loop hL C0 hK (L + 4) 1 (by omega) (by omega) (by omega) kL0 _ _ _ _ (kA q1 u1) H locs _ _ hJ ⟨Nat.le_trans (Nat.le_of_ble_eq_true rfl) (Nat.le_add_right 100 _), Nat.le_trans (Nat.le_of_ble_eq_true rfl) (Nat.le_add_right 20000 _), Or.inl rfl, Or.inl rfl⟩ hP hD hS ls (lv_sub hl [3, 2, 1, 0] rfl)
