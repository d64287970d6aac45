section
variable {x : RM} {P : PR} {s : SS} {k : Nat}
noncomputable def sV (P : PR) (k : Nat) (s : SS) (c : Nat) : SS := (SS.mk ((vA P (s.σ k) (s.N, s.σ) c).1.1) ((vA P (s.σ k) (s.N, s.σ) c).1.2) s.f s.L s.fin s.all s.mst s.bl)
theorem gI_sim (h : SRr x P s) (hP : okPR P) (hN : s.N ≤ 3001) (hok : ∀ i, i < s.N → okAS P (s.σ i)) (hne : ∀ i j, i < j → j < s.N → ¬ eqv (s.σ i) (s.σ j)) (hk : k < s.N) : ∀ c, c ≤ 16 → SRr (gI k x c).1 P (sV P k s c) ∧ (gI k x c).2 = (vA P (s.σ k) (s.N, s.σ) c).2 ∧ RF x (gI k x c).1 ∧ RR (gI k x c).1.1 (gI k x c).1.2 (unR k (gI k x c).1).1 (unR k (gI k x c).1).2 4 (s.σ k) ∧ (c < 16 → okG k c (gI k x c).1)
  | c, hc => by
    have hb := hok k hk
    have base : SRr (gI k x c).1 P (sV P k s c) ∧ (gI k x c).2 = (vA P (s.σ k) (s.N, s.σ) c).2 ∧ RF x (gI k x c).1 := by
      match c, hc with
      | 0, _ => exact ⟨h, rfl, ⟨fun _ _ _ _ => rfl, fun _ _ => rfl, fun _ _ _ _ => rfl⟩⟩
      | c + 1, hc =>
        obtain ⟨h1, h2, h3, h4, _⟩ := gI_sim h hP hN hok hne hk c (by omega)
        have ht : c / 4 < 4 := by omega
        have hw : c % 4 < 4 := by omega
        have hmay := h4.may h1.rp hP hb ht hw
        have hbl := aMay_lt (w := c % 4) hb ht
        rw [gI]
        unfold gS sV
        rw [vA]
        by_cases q : aMay P (s.σ k) (c / 4) (c % 4) = 0
        · rw [if_pos q, if_pos (by rw [hmay, q]; rfl)]
          exact ⟨SRr.rr (y := unR k (gI k x c).1) h1 h4, h2, h3.trans (RR.rf (y := unR k (gI k x c).1) h4)⟩
        · rw [if_neg q, if_neg (by rw [hmay, nz1 hbl]; exact q)]
          have h5 : RR (gI k x c).1.1 (gI k x c).1.2 (peR (unR k (gI k x c).1) (c / 4) (nI (c % 4))).1 (peR (unR k (gI k x c).1) (c / 4) (nI (c % 4))).2 4 (aTak P (s.σ k) (c / 4) (c % 4)) := h4.per h1.rp hP hb ht hw q
          have hv := vA_ok hP hb (y := (s.N, s.σ)) hok hne c (by omega)
          have hcap := vA_cap (P := P) (b := s.σ k) (y := (s.N, s.σ)) hN c
          obtain ⟨m1, m2, _⟩ := SRr.meet (x := peR (unR k (gI k x c).1) (c / 4) (nI (c % 4))) (SRr.rr h1 h5) hP hcap hv.1 h5 (hb.tak hP ht q)
          exact ⟨m1, by show _ + 1 = _ + 1; rw [h2], (h3.trans (RR.rf (y := peR (unR k (gI k x c).1) (c / 4) (nI (c % 4))) h5)).trans m2⟩
    obtain ⟨h1, h2, h3⟩ := base
    have hlow := vA_le (P := P) (b := s.σ k) (y := (s.N, s.σ)) c
    have hNc : s.N ≤ (vA P (s.σ k) (s.N, s.σ) c).1.1 := hlow.1
    have hσk : (sV P k s c).σ k = s.σ k := hlow.2.1 k hk
    have h4 : RR (gI k x c).1.1 (gI k x c).1.2 (unR k (gI k x c).1).1 (unR k (gI k x c).1).2 4 (s.σ k) := by
      have := h1.un hP (k := k) (by show k < (vA P (s.σ k) (s.N, s.σ) c).1.1; omega) (by rw [hσk]; exact hb)
      rw [hσk] at this
      exact this
    refine ⟨h1, h2, h3, h4, fun hc16 => ?_⟩
    have ht : c / 4 < 4 := by omega
    have hw : c % 4 < 4 := by omega
    have hmay := h4.may h1.rp hP hb ht hw
    have hbl := aMay_lt (w := c % 4) hb ht
    refine ⟨okO_of h4 h1.rp hP hb ht, fun hm => ?_⟩
    rw [hmay, nz1 hbl] at hm
    refine ⟨okP_of h4 h1.rp hP hb ht hw hm, ?_⟩
    have h5 := h4.per h1.rp hP hb ht hw hm
    have hcap := vA_cap (P := P) (b := s.σ k) (y := (s.N, s.σ)) hN c
    have hn : perO (unR k (gI k x c).1).1 (c / 4) (nI (c % 4)) 0 19 = nI (vA P (s.σ k) (s.N, s.σ) c).1.1 := by rw [h5.fr 0 (by decide)]; exact h1.n
    unfold okN nS
    rw [hn, qC (by omega)]
    exact ⟨rfl, hcap⟩
theorem nfB_sp {jv0 m : Nat → Nat → Int32} {lv0 lv : Nat → Nat → Int64} {b : AS} (h : RR jv0 lv0 m lv 4 b) (hok : okAS P b) : ∀ t, t ≤ 4 → (∀ c, ¬ c = 19 → nfB m t c = m c) ∧ (∀ u, nfB m t 19 u = if u < t ∧ ¬ (b.th u).st = 4 then 1 else m 19 u) ∧ nfA m t = nI (if ∀ u, u < t → (b.th u).st = 4 then 1 else 0)
  | 0, _ => ⟨fun _ _ => rfl, fun u => by rw [if_neg (by omega)]; rfl, by rw [if_pos (fun u hu => absurd hu (Nat.not_lt_zero _))]; rfl⟩
  | t + 1, ht => by
    obtain ⟨h1, h2, h3⟩ := nfB_sp h hok t (by omega)
    have hst := (hok.th t (by omega)).st
    have he : (nfB m t 5 t = 4) = ((b.th t).st = 4) := by rw [h1 5 (by decide), (h.th t (by omega)).1]; exact nlit (n := 4) (by omega) (by decide)
    rw [nfB, nfA]
    simp only [he]
    by_cases q : (b.th t).st = 4
    · rw [if_pos q, if_pos q]
      refine ⟨h1, fun u => ?_, ?_⟩
      · rw [h2 u]
        by_cases e : u = t
        · rw [if_neg (by omega), if_neg (by rw [e]; exact fun q2 => q2.2 q)]
        · by_cases e2 : u < t ∧ ¬ (b.th u).st = 4
          · rw [if_pos e2, if_pos ⟨by omega, e2.2⟩]
          · rw [if_neg e2, if_neg (fun e3 => e2 ⟨by omega, e3.2⟩)]
      · rw [h3]
        congr 1
        by_cases e : ∀ u, u < t → (b.th u).st = 4
        · rw [if_pos e, if_pos (fun u hu => by by_cases e2 : u = t; rw [e2]; exact q; exact e u (by omega))]
        · rw [if_neg e, if_neg (fun e2 => e (fun u hu => e2 u (by omega)))]
    · rw [if_neg q, if_neg q]
      refine ⟨fun c hc => by rw [u2n hc, h1 c hc], fun u => ?_, ?_⟩
      · rw [u2s]
        unfold upd
        by_cases e : u = t
        · rw [if_pos e, if_pos (by rw [e]; exact ⟨by omega, q⟩)]
        · rw [if_neg e, h2 u]
          by_cases e2 : u < t ∧ ¬ (b.th u).st = 4
          · rw [if_pos e2, if_pos ⟨by omega, e2.2⟩]
          · rw [if_neg e2, if_neg (fun e3 => e2 ⟨by omega, e3.2⟩)]
      · rw [if_neg (fun e => q (e t (by omega)))]; rfl
theorem pwL_eq : ∀ n, pwL n = lI (12 ^ n)
  | 0 => rfl
  | n + 1 => by rw [pwL, pwL_eq n, Nat.pow_succ, lMul]; rfl
theorem fN_eq {jv0 m : Nat → Nat → Int32} {lv0 lv : Nat → Nat → Int64} {b : AS} (h : RR jv0 lv0 m lv 4 b) (hP : okPR P) (hok : okAS P b) {lf : Nat → Nat} (hlf : ∀ t, t < 4 → lf t = (b.th t).n) : nfN m lv lf 4 = oV b := by
  have hw : ∀ t, t < 4 → ((pwL (lf t) + lv 8 t) * 12) + (if nfB m t 5 t = 4 then (6 : Int32) else 7).toInt64 = oW (b.th t) := fun t ht => by
    have hst := (hok.th t ht).st
    obtain ⟨h1, _, _⟩ := nfB_sp h hok t (by omega)
    have he : (nfB m t 5 t = 4) = ((b.th t).st = 4) := by rw [h1 5 (by decide), (h.th t (by omega)).1]; exact nlit (n := 4) (by omega) (by decide)
    simp only [he]
    have e6 : (if (b.th t).st = 4 then (6 : Int32) else 7) = nI (if (b.th t).st = 4 then 6 else 7) := by split <;> rfl
    rw [e6, q64 (by split <;> omega), pwL_eq, hlf t ht, (h.th t ht).2.2.2.2.1]
    unfold oW reN
    rw [lAdd, lMul, lAdd]
    rfl
  unfold oV
  rw [← hw 0 (by decide), ← hw 1 (by decide), ← hw 2 (by decide), ← hw 3 (by decide)]
  simp only [nfN, Int64.add_assoc]
theorem fiR_sim {jv0 : Nat → Nat → Int32} {lv0 : Nat → Nat → Int64} {b : AS} (h : SRr x P s) (hP : okPR P) (hr : RR jv0 lv0 x.1 x.2 4 b) (hb : okAS P b) (hs : srt s.f s.L) (hL : s.L ≤ 3000) : SRr (fiR x) P (finA s b) ∧ RF x (fiR x) ∧ okF x.1 := by
  have hfO : fO x.1 = s.L := by unfold fO; rw [h.len, qC (by omega)]
  have hlf : ∀ t, t < 4 → lfO x.1 t = (b.th t).n := fun t ht => by
    have := (hb.bth hP ht).n
    unfold lfO; rw [(hr.th t ht).2.2.2.1, qC (by omega)]
  have hokF : okF x.1 := by
    refine ⟨fun t ht => by rw [hlf t ht]; exact (hr.th t ht).2.2.2.1, fun t ht => by rw [hlf t ht]; exact (hb.bth hP ht).n, by rw [hfO]; exact h.len, by rw [hfO]; exact hL⟩
  have hr1 : RR (fM x.1) lv0 (fM x.1) x.2 4 b := by
    have U : ∀ c, ¬ c = 0 → fM x.1 c = x.1 c := fun c hc => u2n hc
    refine ⟨fun t ht => ?_, fun m hm => ?_, fun _ _ => rfl, hr.fl⟩
    · have := hr.th t ht
      unfold RT at *
      rw [U 5 (by decide), U 4 (by decide), U 6 (by decide), U 7 (by decide), U 9 (by decide), U 10 (by decide), U 11 (by decide)]
      exact this
    · have := hr.mo m hm
      unfold RM2 at *
      rw [U 12 (by decide), U 13 (by decide), U 14 (by decide), U 15 (by decide)]
      exact this
  obtain ⟨n1, n2, n3⟩ := nfB_sp hr1 hb 4 (Nat.le_refl _)
  rw [aE_all rfl] at n3
  have hfN : fN x.1 x.2 (lfO x.1) = oV b := fN_eq hr1 hP hb hlf
  have G : (∀ c, ¬ c = 0 → ¬ c = 19 → fM2 x.1 c = x.1 c) ∧ (∀ u, u < 4 → fM2 x.1 19 u = if (b.th u).st = 4 then x.1 19 u else 1) ∧ fM2 x.1 0 20 = x.1 0 20 + 1 ∧ fM2 x.1 0 21 = x.1 0 21 + nI (aE b) ∧ ∀ k, ¬ k = 20 → ¬ k = 21 → fM2 x.1 0 k = x.1 0 k := by
    have b0 : nfB (fM x.1) 4 0 = fM x.1 0 := n1 0 (by decide)
    have f0 : ∀ k, ¬ k = 20 → fM x.1 0 k = x.1 0 k := fun k hk => by unfold fM; rw [u2s]; simp only [upd, if_neg hk]
    have f20 : fM x.1 0 20 = x.1 0 20 + 1 := by unfold fM; rw [u2s]; simp [upd]
    have b19 : ∀ u, u < 4 → nfB (fM x.1) 4 19 u = if (b.th u).st = 4 then x.1 19 u else 1 := fun u hu => by
      rw [n2 u]
      have : fM x.1 19 u = x.1 19 u := by unfold fM; rw [u2n (by decide)]
      rw [this]
      by_cases q : (b.th u).st = 4
      · rw [if_pos q, if_neg (fun e => e.2 q)]
      · rw [if_neg q, if_pos ⟨hu, q⟩]
    have bc : ∀ c, ¬ c = 0 → ¬ c = 19 → nfB (fM x.1) 4 c = x.1 c := fun c c1 c2 => by rw [n1 c c2]; unfold fM; rw [u2n c1]
    unfold fM2
    rw [n3]
    have haE : aE b = 0 ∨ aE b = 1 := by unfold aE; split <;> simp
    rcases haE with q | q
    · rw [q, if_pos (show nI 0 = 0 from rfl)]
      exact ⟨bc, b19, by rw [b0, f20], by rw [b0, f0 21 (by decide), show nI 0 = 0 from rfl, Int32.add_zero], fun k k1 _ => by rw [b0, f0 k k1]⟩
    · rw [q, if_neg (by decide)]
      refine ⟨fun c c1 c2 => by rw [u2n c1, bc c c1 c2], fun u hu => by rw [u2n (by decide), b19 u hu], ?_, ?_, fun k k1 k2 => ?_⟩
      · rw [u2s]; simp only [upd, if_neg (show ¬ (20 : Nat) = 21 by decide)]; rw [b0, f20]
      · rw [u2s]; simp only [upd, if_true]; rw [b0, f0 21 (by decide)]; rfl
      · rw [u2s]; simp only [upd, if_neg k2]; rw [b0, f0 k k1]
  obtain ⟨g1, g2, g3, g4, g5⟩ := G
  obtain ⟨f', L', t1, t2⟩ := ntR_eq (lv := x.2) (v := oV b) hs h.out
  obtain ⟨u1, u2⟩ := t1.uniq (ntF_note (v := oV b) hs)
  subst u1 u2
  have e1 : (fiR x).1 = if posL x.2 (oV b) s.L 0 < s.L ∧ x.2 18 (posL x.2 (oV b) s.L 0) = oV b then fM2 x.1 else up2 (fM2 x.1) 0 23 (nI (s.L + 1)) := by
    unfold fiR m_oFin; rw [hfN, hfO]
  have e2 : (fiR x).2 = if posL x.2 (oV b) s.L 0 < s.L ∧ x.2 18 (posL x.2 (oV b) s.L 0) = oV b then x.2 else up2L (shR (s.L - posL x.2 (oV b) s.L 0) s.L x.2) 18 (posL x.2 (oV b) s.L 0) (oV b) := by
    unfold fiR n_oFin; rw [hfN, hfO]
  have key : (∀ k, ¬ k = 23 → (fiR x).1 0 k = fM2 x.1 0 k) ∧ (fiR x).1 0 23 = nI (ntF s.f s.L (oV b)).2 ∧ (∀ c, ¬ c = 0 → (fiR x).1 c = fM2 x.1 c) ∧ (∀ c, ¬ c = 18 → (fiR x).2 c = x.2 c) ∧ ∀ j, j < (ntF s.f s.L (oV b)).2 → (fiR x).2 18 j = (ntF s.f s.L (oV b)).1 j := by
    rcases t2 with ⟨c1, c2, c3, c4⟩ | ⟨c1, c2, c3, c4⟩
    · rw [if_pos ⟨c1, c2⟩] at e1 e2
      rw [e1, e2, c3, c4]
      exact ⟨fun _ _ => rfl, by rw [g5 23 (by decide) (by decide)]; exact h.len, fun _ _ => rfl, fun _ _ => rfl, h.out⟩
    · rw [if_neg c1] at e1 e2
      rw [e1, e2]
      exact ⟨fun k hk => by rw [u2s]; simp only [upd, if_neg hk], by rw [u2s, c2]; simp [upd], fun c hc => u2n hc, c4, c3⟩
  obtain ⟨k1, k2, k3, k4, k5⟩ := key
  refine ⟨⟨?_, fun i j hi hj => by rw [k4 17 (by decide)]; exact h.row i j hi hj, ?_, ?_, ?_, fun t ht => ?_, k2, k5, ?_⟩, ⟨fun c c1 c2 c3 => by rw [k3 c c1, g1 c c1 c3], fun k hk => by rw [k1 k (by omega), g5 k (by omega) (by omega)], fun c c1 c2 c3 => k4 c c3⟩, hokF⟩
  · rw [k1 19 (by decide), g5 19 (by decide) (by decide)]; exact h.n
  · show (fiR x).1 0 20 = nI (s.fin + 1)
    rw [k1 20 (by decide), g3, h.fin, qS]
  · show (fiR x).1 0 21 = nI (s.all + aE b)
    rw [k1 21 (by decide), g4, h.all, qA]
  · rw [k1 22 (by decide), g5 22 (by decide) (by decide)]; exact h.mst
  · show (fiR x).1 19 t = nI (if (b.th t).st = 4 then s.bl t else 1)
    rw [k3 19 (by decide), g2 t ht]
    split
    · exact h.bl t ht
    · rfl
  · exact ⟨fun t ht => by rw [k3 3 (by decide), g1 3 (by decide) (by decide)]; exact h.rp.len t ht, fun t p ht hp => by rw [k3 1 (by decide), g1 1 (by decide) (by decide)]; exact h.rp.act t p ht hp, fun t p ht hp hh => by rw [k3 2 (by decide), g1 2 (by decide) (by decide)]; exact h.rp.opd t p ht hp hh, by rw [k1 0 (by decide), g5 0 (by decide) (by decide)]; exact h.rp.loose⟩
end
