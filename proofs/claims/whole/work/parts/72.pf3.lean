section
variable {P : PR} {a : AS} {s : SS} {x : KM2} {y : RM}
theorem LJ.cls (h : LJ P a s x y) {iv' : Nat → Nat → Int32} {y' : RM} {b : AS} (hC : CR iv' iv' 0 b) (hb : okAS P b) (hf : ∀ c, ¬ c = 0 → ¬ (20 ≤ c ∧ c < 24) → ¬ (28 ≤ c ∧ c < 30) → ¬ (32 ≤ c ∧ c < 34) → iv' c = x.2.1 c) (hr : ∀ j, j < 5 → y'.2 16 j = lI (cR b j)) (hch : iv' 0 3 = y'.1 0 17) (hs : SRr y' P s) : LJ P b s (x.1, iv', x.2.2) y' :=
  ⟨h.pr,
   ⟨fun t ht => by show iv' _ _ = _; rw [hf _ (by omega) (by omega) (by omega) (by omega)]; exact h.cp.len t ht, fun t p ht hp => by show iv' _ _ = _; rw [hf _ (by omega) (by omega) (by omega) (by omega)]; exact h.cp.act t p ht hp, fun t p ht hp hh => by show iv' _ _ = _; rw [hf _ (by omega) (by omega) (by omega) (by omega)]; exact h.cp.opd t p ht hp hh, fun m hm => by show iv' _ _ = _; rw [hf _ (by omega) (by omega) (by omega) (by omega)]; exact h.cp.loose m hm⟩,
   hC,
   hb,
   hr,
   hch,
   ⟨h.cap.e, h.cap.l39, h.cap.o⟩,
   h.cc.of (hf 36 (by decide) (by decide) (by decide) (by decide)) (hf 37 (by decide) (by decide) (by decide) (by decide)) rfl rfl ⟨rfl, rfl, rfl, rfl, rfl, rfl⟩,
   by show iv' 36 3 = _; rw [hf 36 (by decide) (by decide) (by decide) (by decide)]; exact h.cnt,
   hs,
   h.L,
   by
    show (iv' 36 1 = 0 ∧ _) ∨ (iv' 36 1 = 1 ∧ ∃ J, endA P J ∧ s = oA (eA P J) ∧ iv' 36 2 = rA (eA P J))
    rw [hf 36 (by decide) (by decide) (by decide) (by decide)]; exact h.mode⟩
theorem CR.up0 {iv0 iv : Nat → Nat → Int32} {b : AS} (h : CR iv0 iv 0 b) {k : Nat} {v : Int32} : CR (up2 iv 0 k v) (up2 iv 0 k v) 0 b := ⟨fun t ht => by rw [u2n (by omega)]; exact h.th t ht, fun m hm => by rw [u2n (by omega), u2n (by omega)]; exact h.mo m hm, fun _ _ _ _ => rfl⟩
theorem SRr.pack {y y' : RM} (h : SRr y P s) (h1 : ∀ c, ¬ c = 16 → y'.2 c = y.2 c) (h2 : ∀ c, ¬ c = 0 → y'.1 c = y.1 c) (h3 : ∀ k, ¬ k = 17 → y'.1 0 k = y.1 0 k) : SRr y' P s :=
  ⟨by rw [h3 19 (by decide)]; exact h.n,
   fun i j hi hj => by rw [h1 17 (by decide)]; exact h.row i j hi hj,
   by rw [h3 20 (by decide)]; exact h.fin,
   by rw [h3 21 (by decide)]; exact h.all,
   by rw [h3 22 (by decide)]; exact h.mst,
   fun t ht => by rw [h2 19 (by decide)]; exact h.bl t ht,
   by rw [h3 23 (by decide)]; exact h.len,
   fun j hj => by rw [h1 18 (by decide)]; exact h.out j hj,
   ⟨fun t ht => by rw [h2 3 (by decide)]; exact h.rp.len t ht, fun t p ht hp => by rw [h2 1 (by decide)]; exact h.rp.act t p ht hp, fun t p ht hp hh => by rw [h2 2 (by decide)]; exact h.rp.opd t p ht hp hh, by rw [h3 0 (by decide)]; exact h.rp.loose⟩⟩
theorem RF1 {jv : Nat → Nat → Int32} (hC : RP jv P) {v : Int32} : RP (up2 jv 0 17 v) P := ⟨fun t ht => by rw [u2n (by decide)]; exact hC.len t ht, fun t p ht hp => by rw [u2n (by decide)]; exact hC.act t p ht hp, fun t p ht hp hh => by rw [u2n (by decide)]; exact hC.opd t p ht hp hh, by rw [u2w (by decide)]; exact hC.loose⟩
theorem SRr.up17 (h : SRr y P s) {v : Int32} : SRr (up2 y.1 0 17 v, y.2) P s := h.pack (y' := (up2 y.1 0 17 v, y.2)) (fun _ _ => rfl) (fun c hc => u2n hc) (fun k hk => by show up2 y.1 0 17 v 0 k = y.1 0 k; exact u2w hk)
theorem reset_eq {jv : Nat → Nat → Int32} {lv : Nat → Nat → Int64} (hP : okPR P) (hC : RP jv P) : RR (up2 jv 0 17 0) lv (m_oReset jv) (n_oFirst (up2 jv 0 17 0) lv) 4 (aBeg P) ∧ (∀ j, j < 5 → n_oReset jv lv 16 j = lI (cR (aBeg P) j)) ∧ ∀ c, ¬ c = 16 → n_oReset jv lv c = n_oFirst (up2 jv 0 17 0) lv c := by
  have h1 : RR (up2 jv 0 17 0) lv (m_oReset jv) (n_oFirst (up2 jv 0 17 0) lv) 4 (aBeg P) := first_eq hP (RF1 hC)
  have hb : okAS P (aBeg P) := okAS.beg
  obtain ⟨p1, p2, _⟩ := pack_eq (tc := 16) (az := 0) h1 (hb.b hP) (hb.p8 hP) (by decide)
  exact ⟨h1, fun j hj => by have := p1 j hj; rw [Nat.zero_add] at this; exact this, p2⟩
theorem reset_SRr (hP : okPR P) (h : SRr y P s) : SRr (m_oReset y.1, n_oReset y.1 y.2) P s ∧ m_oReset y.1 0 17 = 0 := by
  obtain ⟨r1, r2, r3⟩ := reset_eq (lv := y.2) hP h.rp
  have h2 := SRr.rr (y := (m_oReset y.1, n_oFirst (up2 y.1 0 17 0) y.2)) (h.up17 (v := 0)) r1
  exact ⟨h2.pack (y' := (m_oReset y.1, n_oReset y.1 y.2)) r3 (fun _ _ => rfl) (fun _ _ => rfl), by rw [r1.fr 0 (by decide)]; exact u2v⟩
theorem LJ.reset (h : LJ P a s x y) : r_xReset x.2.1 = r_oReset y.1 ∧ LJ P (aBeg P) s (x.1, m_xReset x.2.1, x.2.2) (m_oReset y.1, n_oReset y.1 y.2) := by
  have hR := aBegin_eq (mi := 0) h.pr h.cp (by decide)
  obtain ⟨g1, g2⟩ := reset_SRr h.pr h.sr
  obtain ⟨_, r2, _⟩ := reset_eq (lv := y.2) h.pr h.sr.rp
  refine ⟨h.ch, ?_⟩
  refine h.cls (iv' := m_xReset x.2.1) (y' := (m_oReset y.1, n_oReset y.1 y.2)) hR.up0 okAS.beg (fun c c1 c2 c3 c4 => ?_) r2 ?_ g1
  · show up2 (m_aBegin x.2.1 0) 0 3 0 c = _
    rw [u2n c1, hR.fr c (by omega) (by omega) (by omega)]
  · show up2 (m_aBegin x.2.1 0) 0 3 0 0 3 = m_oReset y.1 0 17
    rw [u2v, g2]
theorem LJ.choose (h : LJ P a s x y) (tt way : Int32) : ∃ t mm u sz mm' u' p sz' v1 v2 k0 : Nat, (¬ r_xIsT x.2.1 tt = 0 → t < 4 ∧ tt = nI t) ∧ (r_oOut y.1 tt 4 = 0 → t < 4 ∧ tt = nI t) ∧ mm < 2 ∧ u < 4 ∧ mm' < 2 ∧ u' < 4 ∧ (t < 4 → okT x.2.1 0 t mm u) ∧ (t < 4 → x.2.1 (28 + 2 * 0 + mm) 2 = nI sz) ∧ sz ≤ 4 ∧ (t < 4 → ∀ j, j < sz → vp_in (x.2.1 (32 + 2 * 0 + mm) j) 4) ∧ (t < 4 → okR (m_oUnp y.1 y.2 16 0) t p mm' u') ∧ (t < 4 → ¬ r_oMay (m_oUnp y.1 y.2 16 0) t mm' u' p way = 0 → (m_oUnp y.1 y.2 16 0) 5 t = 0 → r_oAction (m_oUnp y.1 y.2 16 0) t p < 6 → okMon (up2 (m_oUnp y.1 y.2 16 0) 4 t (nI (p + 1))) t mm' (r_oAction (m_oUnp y.1 y.2 16 0) t p) way sz' v1 v2) ∧ (t < 4 → ¬ r_oMay (m_oUnp y.1 y.2 16 0) t mm' u' p way = 0 → ¬ (m_oUnp y.1 y.2 16 0) 5 t = 0 → ¬ (m_oUnp y.1 y.2 16 0) 5 t = 2 → ¬ (m_oUnp y.1 y.2 16 0) 5 t = 3 → okLv (m_oUnp y.1 y.2 16 0) t p mm' sz' k0) ∧ r_xChoose x.2.1 tt t way mm u sz = r_oChoose y.1 y.2 tt t way mm' u' p sz' v1 v2 k0 ∧ ∃ b, LJ P b s (x.1, m_xChoose x.2.1 tt t way mm u sz, x.2.2) (m_oChoose y.1 y.2 tt t way mm' u' p sz' v1 v2 k0, n_oChoose y.1 y.2 tt t way mm' u' p sz' v1 v2 k0) := by
  rcases vcase tt (n := 4) (by decide) with ⟨t, ht, rfl⟩ | hn
  · have e1 := isT_y (iv := x.2.1) ht
    have e2 : r_oOut y.1 (nI t) 4 = 0 := out_y (n := 4) ht (by decide)
    have hop := opG (mi := 0) (by decide) h.cr h.cp h.pr h.ok ht
    have hmm : (r_wOperand x.2.1 0 t).toNatClampNeg % 2 < 2 := Nat.mod_lt _ (by decide)
    have hsz := okS4_of h.cr h.ok hmm
    have hM := h.cr.mo _ hmm
    refine ⟨t, (r_wOperand x.2.1 0 t).toNatClampNeg % 2, (r_wOperand x.2.1 0 t).toNatClampNeg % 4, (a.mo ((r_wOperand x.2.1 0 t).toNatClampNeg % 2)).q.length, mmO (m_oUnp y.1 y.2 16 0) t, uO (m_oUnp y.1 y.2 16 0) t, pO (m_oUnp y.1 y.2 16 0) t, szO (m_oUnp y.1 y.2 16 0) t, vaO (m_oUnp y.1 y.2 16 0) t, vbO (m_oUnp y.1 y.2 16 0) t, k0O (m_oUnp y.1 y.2 16 0) t, fun _ => ⟨ht, rfl⟩, fun _ => ⟨ht, rfl⟩, hmm, Nat.mod_lt _ (by decide), Nat.mod_lt _ (by decide), Nat.mod_lt _ (by decide), fun _ => okT_of h.cr (by decide) h.cp h.pr h.ok ht hop, fun _ => hM.2.2.1, hsz.2.1, fun _ => hsz.2.2, fun _ => okO_of h.un h.sr.rp h.pr h.ok ht, ?_⟩
    rcases vcase way (n := 4) (by decide) with ⟨w, hw, rfl⟩ | hn2
    · have e3 := isW_y (iv := x.2.1) hw
      have e4 : r_oOut y.1 (nI w) 4 = 0 := out_y (n := 4) hw (by decide)
      have hmC := h.cr.may (by decide) h.cp h.pr h.ok ht hw hop
      have hmR : r_oMay (m_oUnp y.1 y.2 16 0) t (mmO (m_oUnp y.1 y.2 16 0) t) (uO (m_oUnp y.1 y.2 16 0) t) (pO (m_oUnp y.1 y.2 16 0) t) (nI w) = nI (aMay P a t w) := h.un.may h.sr.rp h.pr h.ok ht hw
      have hlt := aMay_lt (w := w) h.ok ht
      have nzz : ¬ nI (aMay P a t w) = 0 → ¬ aMay P a t w = 0 := fun q => by rwa [nz1 hlt] at q
      refine ⟨fun _ q s0 ha => (okP_of h.un h.sr.rp h.pr h.ok ht hw (nzz (by rw [← hmR]; exact q))).1 s0 ha, fun _ q s0 s2 s3 => (okP_of h.un h.sr.rp h.pr h.ok ht hw (nzz (by rw [← hmR]; exact q))).2 s0 s2 s3, ?_, ?_⟩
      · unfold r_xChoose r_oChoose
        rw [if_neg (by rw [e1]; decide), if_pos e2, if_neg (by rw [e3]; decide), if_pos e4, hmC, hmR]
      · unfold m_xChoose m_oChoose n_oChoose
        rw [if_neg (show ¬ r_xIsT x.2.1 (nI t) = 0 by rw [e1]; decide), if_pos e2, if_pos e2, if_neg (show ¬ r_xIsW x.2.1 (nI w) = 0 by rw [e3]; decide), if_pos e4, if_pos e4, hmC, hmR]
        by_cases q : aMay P a t w = 0
        · rw [if_pos (by rw [q]; rfl), if_pos (by rw [q]; rfl), if_pos (by rw [q]; rfl)]
          exact ⟨a, h.unp⟩
        · have q' : ¬ nI (aMay P a t w) = 0 := by rw [nz1 hlt]; exact q
          rw [if_neg q', if_neg q', if_neg q']
          have hk := h.cr.tak (by decide) h.cp h.pr h.ok ht hw hop rfl q
          have hb := h.ok.tak h.pr ht q
          have hr : RR y.1 y.2 (perO (m_oUnp y.1 y.2 16 0) t (nI w)) (perL (m_oUnp y.1 y.2 16 0) (n_oUnp y.1 y.2 16 0) t (nI w)) 4 (aTak P a t w) := h.un.per h.sr.rp h.pr h.ok ht hw q
          obtain ⟨p1, p2, _⟩ := pack_eq (tc := 16) (az := 0) hr (hb.b h.pr) (hb.p8 h.pr) (by decide)
          unfold perO perL at hr p1 p2
          generalize hJ : m_oPerf (m_oUnp y.1 y.2 16 0) t (mmO (m_oUnp y.1 y.2 16 0) t) (uO (m_oUnp y.1 y.2 16 0) t) (pO (m_oUnp y.1 y.2 16 0) t) (nI w) (szO (m_oUnp y.1 y.2 16 0) t) (vaO (m_oUnp y.1 y.2 16 0) t) (vbO (m_oUnp y.1 y.2 16 0) t) (k0O (m_oUnp y.1 y.2 16 0) t) = J at *
          generalize hL : n_oPerf (m_oUnp y.1 y.2 16 0) (n_oUnp y.1 y.2 16 0) t (mmO (m_oUnp y.1 y.2 16 0) t) (uO (m_oUnp y.1 y.2 16 0) t) (pO (m_oUnp y.1 y.2 16 0) t) (nI w) (szO (m_oUnp y.1 y.2 16 0) t) (vaO (m_oUnp y.1 y.2 16 0) t) (vbO (m_oUnp y.1 y.2 16 0) t) (k0O (m_oUnp y.1 y.2 16 0) t) = L at *
          refine ⟨aTak P a t w, ?_⟩
          refine h.cls (y' := (up2 J 0 17 (J 0 17 + 1), n_oPack J L 16 0)) hk.up0 hb (fun c c1 c2 c3 c4 => ?_) (fun j hj => ?_) ?_ ?_
          · rw [u2n c1, hk.fr c (by omega) (by omega) (by omega)]
          · have := p1 j hj; rw [Nat.zero_add] at this; exact this
          · show up2 _ 0 3 _ 0 3 = up2 J 0 17 (J 0 17 + 1) 0 17
            rw [u2v, u2v, hk.fr 0 (by decide) (by decide) (by decide), hr.fr 0 (by decide), h.ch]
          · have h2 := SRr.rr (y := (J, L)) h.sr hr
            have h3 := h2.pack (y' := (J, n_oPack J L 16 0)) p2 (fun _ _ => rfl) (fun _ _ => rfl)
            exact h3.up17
    · have e3 := isW_n (iv := x.2.1) hn2
      have e4 : r_oOut y.1 way 4 = 1 := out_n (w := 4) hn2
      have e5 : ∀ mm u p, r_oMay (m_oUnp y.1 y.2 16 0) t mm u p way = 0 ∨ ¬ r_oMay (m_oUnp y.1 y.2 16 0) t mm u p way = 0 := fun _ _ _ => Classical.em _
      have hw : ∀ n, n < 4 → ¬ way = nI n := fun n hn' e => by
        subst e
        rcases hn2 with e | e
        · exact nlt0 (by omega) e
        · exact e ((qLt (by omega) (by decide)).2 hn')
      have w0 : ¬ way = 0 := hw 0 (by decide)
      have w1 : ¬ way = 1 := hw 1 (by decide)
      have w2 : ¬ way = 2 := hw 2 (by decide)
      have w3 : ¬ way = 3 := hw 3 (by decide)
      have hz : ∀ mm u p, r_oMay (m_oUnp y.1 y.2 16 0) t mm u p way = 0 := fun mm u p => by
        unfold r_oMay r_oRmay
        simp only [if_neg w0, if_neg w1, if_neg w2, if_neg w3, ifsame]
      refine ⟨fun _ q => absurd (hz _ _ _) q, fun _ q => absurd (hz _ _ _) q, ?_, ?_⟩
      · unfold r_xChoose r_oChoose
        rw [if_neg (by rw [e1]; decide), if_pos e2, if_pos e3, if_neg (by rw [e4]; decide)]
      · unfold m_xChoose m_oChoose n_oChoose
        rw [if_neg (show ¬ r_xIsT x.2.1 (nI t) = 0 by rw [e1]; decide), if_pos e2, if_pos e2, if_pos e3, if_neg (show ¬ r_oOut y.1 way 4 = 0 by rw [e4]; decide), if_neg (show ¬ r_oOut y.1 way 4 = 0 by rw [e4]; decide)]
        exact ⟨a, h⟩
  · have e1 := isT_n (iv := x.2.1) hn
    have e2 : r_oOut y.1 tt 4 = 1 := out_n (w := 4) hn
    refine ⟨4, 0, 0, 0, 0, 0, 0, 0, 0, 0, 0, fun q => absurd e1 q, fun q => absurd q (by rw [e2]; decide), by decide, by decide, by decide, by decide, fun q => absurd q (by decide), fun q => absurd q (by decide), by decide, fun q => absurd q (by decide), fun q => absurd q (by decide), fun q => absurd q (by decide), fun q => absurd q (by decide), ?_, ?_⟩
    · unfold r_xChoose r_oChoose
      rw [if_pos e1, if_neg (by rw [e2]; decide)]
    · unfold m_xChoose m_oChoose n_oChoose
      rw [if_pos e1, if_neg (by rw [e2]; decide), if_neg (by rw [e2]; decide)]
      exact ⟨a, h⟩
end
