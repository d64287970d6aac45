theorem vcase (v : Int32) {n : Nat} (hn : n < 2 ^ 31) : (∃ t, t < n ∧ v = nI t) ∨ (v < 0 ∨ ¬ v < nI n) := by
  by_cases h : v < 0
  · exact Or.inr (Or.inl h)
  · by_cases h2 : v < nI n
    · refine Or.inl ⟨v.toNatClampNeg, ?_, ?_⟩
      · have h3 := Int32.lt_iff_toInt_lt.1 h2
        rw [qI hn] at h3
        have h4 : ¬ v.toInt < 0 := fun e => h (Int32.lt_iff_toInt_lt.2 e)
        show v.toInt.toNat < n
        omega
      · apply Int32.toInt_inj.1
        have h4 : ¬ v.toInt < 0 := fun e => h (Int32.lt_iff_toInt_lt.2 e)
        have h3 := Int32.lt_iff_toInt_lt.1 h2
        rw [qI hn] at h3
        have h5 : v.toNatClampNeg < 2 ^ 31 := by show v.toInt.toNat < _; omega
        rw [qI h5]
        show v.toInt = (v.toInt.toNat : Int)
        omega
    · exact Or.inr (Or.inr h2)
theorem nlt0 {t : Nat} (h : t < 2 ^ 31) : ¬ nI t < 0 := fun e => by rw [q0, qLt h (by decide)] at e; omega
theorem nle_of {v w : Int32} (h : ¬ v < w) : w ≤ v := by rw [Int32.le_iff_toInt_le]; rw [Int32.lt_iff_toInt_lt] at h; omega
theorem nlt_of {v w : Int32} (h : w ≤ v) : ¬ v < w := by rw [Int32.lt_iff_toInt_lt]; rw [Int32.le_iff_toInt_le] at h; omega
theorem isT_y {iv : Nat → Nat → Int32} {t : Nat} (h : t < 4) : r_xIsT iv (nI t) = 1 := by
  unfold r_xIsT
  rw [if_neg (nlt0 (by omega)), if_neg (by rw [q4, qLe (by decide) (by omega)]; omega)]
theorem isT_n {iv : Nat → Nat → Int32} {v : Int32} (h : v < 0 ∨ ¬ v < nI 4) : r_xIsT iv v = 0 := by
  unfold r_xIsT
  by_cases q : v < 0
  · rw [if_pos q]
  · rw [if_neg q, if_pos (nle_of (by rcases h with h | h; exact absurd h q; exact h))]
theorem isW_y {iv : Nat → Nat → Int32} {t : Nat} (h : t < 4) : r_xIsW iv (nI t) = 1 := isT_y (iv := iv) h
theorem isW_n {iv : Nat → Nat → Int32} {v : Int32} (h : v < 0 ∨ ¬ v < nI 4) : r_xIsW iv v = 0 := isT_n (iv := iv) h
theorem isM_y {iv : Nat → Nat → Int32} {t : Nat} (h : t < 2) : r_xIsM iv (nI t) = 1 := by
  unfold r_xIsM
  rw [if_neg (nlt0 (by omega)), if_neg (by rw [q2, qLe (by decide) (by omega)]; omega)]
theorem isM_n {iv : Nat → Nat → Int32} {v : Int32} (h : v < 0 ∨ ¬ v < nI 2) : r_xIsM iv v = 0 := by
  unfold r_xIsM
  by_cases q : v < 0
  · rw [if_pos q]
  · rw [if_neg q, if_pos (nle_of (by rcases h with h | h; exact absurd h q; exact h))]
theorem out_y {iv : Nat → Nat → Int32} {t n : Nat} (h : t < n) (hn : n < 2 ^ 31) : r_oOut iv (nI t) (nI n) = 0 := by
  unfold r_oOut
  rw [if_neg (nlt0 (by omega)), if_pos ((qLt (by omega) hn).2 h)]
theorem out_n {iv : Nat → Nat → Int32} {v w : Int32} (h : v < 0 ∨ ¬ v < w) : r_oOut iv v w = 1 := by
  unfold r_oOut
  by_cases q : v < 0
  · rw [if_pos q]
  · rw [if_neg q, if_neg (by rcases h with h | h; exact absurd h q; exact h)]
def zSS (σ : Nat → AS) (f : Nat → Int64) : SS := ⟨0, σ, f, 0, 0, 0, 0, fun _ => 0⟩
def endA (P : PR) (J : Nat) : Prop := (∀ j, j < J → j < (eA P j).N ∧ (eA P j).N ≤ 3000) ∧ ¬ (J < (eA P J).N ∧ (eA P J).N ≤ 3000) ∧ J ≤ 3000
def LJ (P : PR) (a : AS) (s : SS) (x : KM2) (y : RM) : Prop := (okPR P) ∧ (CP x.2.1 P) ∧ (CR x.2.1 x.2.1 0 a) ∧ (okAS P a) ∧ (∀ j, j < 5 → y.2 16 j = lI (cR a j)) ∧ (x.2.1 0 3 = y.1 0 17) ∧ (capX x) ∧ (CC x s) ∧ (x.2.1 36 3 = nI s.N) ∧ (SRr y P s) ∧ (s.L ≤ 3000) ∧ ((x.2.1 36 1 = 0 ∧ ∃ σ f, s = zSS σ f) ∨ (x.2.1 36 1 = 1 ∧ ∃ J, endA P J ∧ s = oA (eA P J) ∧ x.2.1 36 2 = rA (eA P J)))
theorem LJ.pr {P : PR} {a : AS} {s : SS} {x : KM2} {y : RM} (h9 : LJ P a s x y) : okPR P := h9.1
theorem LJ.cp {P : PR} {a : AS} {s : SS} {x : KM2} {y : RM} (h9 : LJ P a s x y) : CP x.2.1 P := h9.2.1
theorem LJ.cr {P : PR} {a : AS} {s : SS} {x : KM2} {y : RM} (h9 : LJ P a s x y) : CR x.2.1 x.2.1 0 a := h9.2.2.1
theorem LJ.ok {P : PR} {a : AS} {s : SS} {x : KM2} {y : RM} (h9 : LJ P a s x y) : okAS P a := h9.2.2.2.1
theorem LJ.r16 {P : PR} {a : AS} {s : SS} {x : KM2} {y : RM} (h9 : LJ P a s x y) : ∀ j, j < 5 → y.2 16 j = lI (cR a j) := h9.2.2.2.2.1
theorem LJ.ch {P : PR} {a : AS} {s : SS} {x : KM2} {y : RM} (h9 : LJ P a s x y) : x.2.1 0 3 = y.1 0 17 := h9.2.2.2.2.2.1
theorem LJ.cap {P : PR} {a : AS} {s : SS} {x : KM2} {y : RM} (h9 : LJ P a s x y) : capX x := h9.2.2.2.2.2.2.1
theorem LJ.cc {P : PR} {a : AS} {s : SS} {x : KM2} {y : RM} (h9 : LJ P a s x y) : CC x s := h9.2.2.2.2.2.2.2.1
theorem LJ.cnt {P : PR} {a : AS} {s : SS} {x : KM2} {y : RM} (h9 : LJ P a s x y) : x.2.1 36 3 = nI s.N := h9.2.2.2.2.2.2.2.2.1
theorem LJ.sr {P : PR} {a : AS} {s : SS} {x : KM2} {y : RM} (h9 : LJ P a s x y) : SRr y P s := h9.2.2.2.2.2.2.2.2.2.1
theorem LJ.L {P : PR} {a : AS} {s : SS} {x : KM2} {y : RM} (h9 : LJ P a s x y) : s.L ≤ 3000 := h9.2.2.2.2.2.2.2.2.2.2.1
theorem LJ.mode {P : PR} {a : AS} {s : SS} {x : KM2} {y : RM} (h9 : LJ P a s x y) : (x.2.1 36 1 = 0 ∧ ∃ σ f, s = zSS σ f) ∨ (x.2.1 36 1 = 1 ∧ ∃ J, endA P J ∧ s = oA (eA P J) ∧ x.2.1 36 2 = rA (eA P J)) := h9.2.2.2.2.2.2.2.2.2.2.2
abbrev unP (y : RM) : RM := (m_oUnp y.1 y.2 16 0, n_oUnp y.1 y.2 16 0)
section
variable {P : PR} {a : AS} {s : SS} {x : KM2} {y : RM}
theorem LJ.un (h : LJ P a s x y) : RR y.1 y.2 (unP y).1 (unP y).2 4 a := unp_eq (h.ok.b h.pr) (h.ok.p8 h.pr) (by decide) (fun j hj => by rw [Nat.zero_add]; exact h.r16 j hj)
theorem LJ.rr {y' : RM} {e : Nat} {b : AS} (h : LJ P a s x y) (hr : RR y.1 y.2 y'.1 y'.2 e b) : LJ P a s x y' :=
  ⟨h.pr,
   h.cp,
   h.cr,
   h.ok,
   fun j hj => by rw [hr.fl 16 (by decide)]; exact h.r16 j hj,
   by rw [hr.fr 0 (by decide)]; exact h.ch,
   h.cap,
   h.cc,
   h.cnt,
   h.sr.rr hr,
   h.L,
   h.mode⟩
theorem LJ.unp (h : LJ P a s x y) : LJ P a s x (unP y) := LJ.rr (y' := unP y) h h.un
theorem LJ.state (h : LJ P a s x y) (tt : Int32) : ∃ t : Nat, (¬ r_xIsT x.2.1 tt = 0 → t < 4 ∧ tt = nI t) ∧ (r_oOut y.1 tt 4 = 0 → t < 4 ∧ tt = nI t) ∧ r_xState x.2.1 tt t = r_oState y.1 y.2 tt t ∧ LJ P a s x (m_oState y.1 y.2 tt t, n_oState y.1 y.2 tt t) := by
  rcases vcase tt (n := 4) (by decide) with ⟨t, ht, rfl⟩ | hn
  · have e1 := isT_y (iv := x.2.1) ht
    have e2 : r_oOut y.1 (nI t) 4 = 0 := out_y (n := 4) ht (by decide)
    refine ⟨t, fun _ => ⟨ht, rfl⟩, fun _ => ⟨ht, rfl⟩, ?_, ?_⟩
    · unfold r_xState r_oState r_wState
      rw [if_neg (by rw [e1]; decide), if_pos e2]
      have hT := h.cr.th t ht
      have hU := h.un.th t ht
      have hU5 : m_oUnp y.1 y.2 16 0 5 t = nI (a.th t).st := hU.1
      have hU9 : m_oUnp y.1 y.2 16 0 9 t = nI (a.th t).fi := hU.2.2.2.2.2.1
      have hU10 : m_oUnp y.1 y.2 16 0 10 t = nI (a.th t).fp := hU.2.2.2.2.2.2.1
      rw [hT.1, hT.2.2.2.1, hT.2.2.2.2.1, hU5, hU9, hU10]
    · unfold m_oState n_oState
      rw [if_pos e2, if_pos e2]
      exact h.unp
  · have e1 := isT_n (iv := x.2.1) hn
    have e2 : r_oOut y.1 tt 4 = 1 := out_n (w := 4) hn
    refine ⟨4, fun q => absurd e1 q, fun q => absurd q (by rw [e2]; decide), ?_, ?_⟩
    · unfold r_xState r_oState
      rw [if_pos e1, if_neg (by rw [e2]; decide)]
    · unfold m_oState n_oState
      rw [if_neg (by rw [e2]; decide), if_neg (by rw [e2]; decide)]
      exact h
theorem LJ.owner (h : LJ P a s x y) (k : Int32) : ∃ m : Nat, (¬ r_xIsM x.2.1 k = 0 → m < 2 ∧ k = nI m) ∧ (r_oOut y.1 k 2 = 0 → m < 2 ∧ k = nI m) ∧ r_xOwner x.2.1 k m = r_oOwner y.1 y.2 k m ∧ LJ P a s x (m_oOwner y.1 y.2 k m, n_oOwner y.1 y.2 k m) := by
  have hmem : ∀ m, LJ P a s x (m_oOwner y.1 y.2 k m, n_oOwner y.1 y.2 k m) := fun m => by
    unfold m_oOwner n_oOwner
    rw [ifsame, ifsame]
    exact h.unp
  rcases vcase k (n := 2) (by decide) with ⟨m, hm, rfl⟩ | hn
  · have e1 := isM_y (iv := x.2.1) hm
    have e2 : r_oOut (m_oUnp y.1 y.2 16 0) (nI m) 2 = 0 := out_y (n := 2) hm (by decide)
    refine ⟨m, fun _ => ⟨hm, rfl⟩, fun _ => ⟨hm, rfl⟩, ?_, hmem m⟩
    unfold r_xOwner r_oOwner r_mIsFree
    rw [if_neg (by rw [e1]; decide), if_pos e2]
    have hM := (h.cr.mo m hm).1
    have hU : m_oUnp y.1 y.2 16 0 12 m = nI (a.mo m).ow - 1 := (h.un.mo m hm).1
    rw [hM, hU]
    by_cases q : nI (a.mo m).ow - 1 = -1
    · rw [if_pos q, if_neg (by decide), q]
    · rw [if_neg q, if_pos rfl]
  · have e1 := isM_n (iv := x.2.1) hn
    have e2 : r_oOut (m_oUnp y.1 y.2 16 0) k 2 = 1 := out_n (w := 2) hn
    have e3 : r_oOut y.1 k 2 = 1 := out_n (w := 2) hn
    refine ⟨2, fun q => absurd e1 q, fun q => absurd q (by rw [e3]; decide), ?_, hmem 2⟩
    unfold r_xOwner r_oOwner
    rw [if_pos e1, if_neg (by rw [e2]; decide)]
theorem LJ.held (h : LJ P a s x y) (k : Int32) : ∃ m : Nat, (¬ r_xIsM x.2.1 k = 0 → m < 2 ∧ k = nI m) ∧ (r_oOut y.1 k 2 = 0 → m < 2 ∧ k = nI m) ∧ r_xHeld x.2.1 k m = r_oHeld y.1 y.2 k m ∧ LJ P a s x (m_oHeld y.1 y.2 k m, n_oHeld y.1 y.2 k m) := by
  have hmem : ∀ m, LJ P a s x (m_oHeld y.1 y.2 k m, n_oHeld y.1 y.2 k m) := fun m => by
    unfold m_oHeld n_oHeld
    rw [ifsame, ifsame]
    exact h.unp
  rcases vcase k (n := 2) (by decide) with ⟨m, hm, rfl⟩ | hn
  · have e1 := isM_y (iv := x.2.1) hm
    have e2 : r_oOut (m_oUnp y.1 y.2 16 0) (nI m) 2 = 0 := out_y (n := 2) hm (by decide)
    refine ⟨m, fun _ => ⟨hm, rfl⟩, fun _ => ⟨hm, rfl⟩, ?_, hmem m⟩
    unfold r_xHeld r_oHeld
    rw [if_neg (by rw [e1]; decide), if_pos e2]
    have hM := (h.cr.mo m hm).2.1
    have hU : m_oUnp y.1 y.2 16 0 13 m = nI (a.mo m).de := (h.un.mo m hm).2.1
    rw [hM, hU]
  · have e1 := isM_n (iv := x.2.1) hn
    have e2 : r_oOut (m_oUnp y.1 y.2 16 0) k 2 = 1 := out_n (w := 2) hn
    have e3 : r_oOut y.1 k 2 = 1 := out_n (w := 2) hn
    refine ⟨2, fun q => absurd e1 q, fun q => absurd q (by rw [e3]; decide), ?_, hmem 2⟩
    unfold r_xHeld r_oHeld
    rw [if_pos e1, if_neg (by rw [e2]; decide)]
theorem LJ.inSet (h : LJ P a s x y) (k v : Int32) : ∃ m sz kx : Nat, (¬ r_xIsM x.2.1 k = 0 → m < 2 ∧ k = nI m) ∧ (r_oOut y.1 k 2 = 0 → m < 2 ∧ k = nI m) ∧ (m < 2 → x.2.1 (28 + 2 * 0 + m) 2 = nI sz) ∧ sz ≤ 4 ∧ (m < 2 → r_oOut y.1 v ((m_oUnp y.1 y.2 16 0) 14 m) = 0 → kx < 4 ∧ v = nI kx) ∧ r_xInSet x.2.1 k m v = r_oInSet y.1 y.2 k m v kx ∧ LJ P a s x (m_oInSet y.1 y.2 k m v kx, n_oInSet y.1 y.2 k m v kx) := by
  have hmem : ∀ m kx, LJ P a s x (m_oInSet y.1 y.2 k m v kx, n_oInSet y.1 y.2 k m v kx) := fun m kx => by
    unfold m_oInSet n_oInSet
    simp only [ifsame]
    exact h.unp
  rcases vcase k (n := 2) (by decide) with ⟨m, hm, rfl⟩ | hn
  · have e1 := isM_y (iv := x.2.1) hm
    have e2 : r_oOut (m_oUnp y.1 y.2 16 0) (nI m) 2 = 0 := out_y (n := 2) hm (by decide)
    have hM := h.cr.mo m hm
    have hl := h.ok.len hm
    have hU : m_oUnp y.1 y.2 16 0 14 m = nI (a.mo m).q.length := (h.un.mo m hm).2.2.1
    have hU2 : ∀ j, j < (a.mo m).q.length → m_oUnp y.1 y.2 16 0 15 (4 * m + j) = nI ((a.mo m).q.getD j 0) := (h.un.mo m hm).2.2.2
    rcases vcase v (n := (a.mo m).q.length) (by omega) with ⟨kx, hk, rfl⟩ | hn2
    · refine ⟨m, (a.mo m).q.length, kx, fun _ => ⟨hm, rfl⟩, fun _ => ⟨hm, rfl⟩, fun _ => hM.2.2.1, hl, fun _ _ => ⟨by omega, rfl⟩, ?_, hmem m kx⟩
      unfold r_xInSet r_oInSet
      rw [if_neg (by rw [e1]; decide), if_pos e2, hU, if_pos (out_y hk (by omega)), waiter_at h.cr hm hl hk, hU2 kx hk]
    · refine ⟨m, (a.mo m).q.length, 0, fun _ => ⟨hm, rfl⟩, fun _ => ⟨hm, rfl⟩, fun _ => hM.2.2.1, hl, fun _ q => by rw [hU, out_n hn2] at q; exact absurd q (by decide), ?_, hmem m 0⟩
      unfold r_xInSet r_oInSet r_mWaiter
      rw [if_neg (by rw [e1]; decide), if_pos e2, hU, if_neg (show ¬ r_oOut (m_oUnp y.1 y.2 16 0) v (nI (a.mo m).q.length) = 0 by rw [out_n hn2]; decide), hM.2.2.1]
      by_cases q : v < 0
      · rw [if_pos q]
      · rw [if_neg q, if_pos (nle_of (by rcases hn2 with e | e; exact absurd e q; exact e))]
  · have e1 := isM_n (iv := x.2.1) hn
    have e2 : r_oOut (m_oUnp y.1 y.2 16 0) k 2 = 1 := out_n (w := 2) hn
    have e3 : r_oOut y.1 k 2 = 1 := out_n (w := 2) hn
    refine ⟨2, 0, 0, fun q => absurd e1 q, fun q => absurd q (by rw [e3]; decide), fun q => absurd q (by decide), by decide, fun q => absurd q (by decide), ?_, hmem 2 0⟩
    unfold r_xInSet r_oInSet
    rw [if_pos e1, if_neg (by rw [e2]; decide)]
theorem LJ.count (h : LJ P a s x y) (k : Int32) : r_xCount x.2.1 k = r_oCount y.1 k := by
  unfold r_xCount r_oCount
  rw [h.ch, h.cnt, h.cc.fin, h.cc.all, h.cc.mst, h.sr.n, h.sr.fin, h.sr.all, h.sr.mst]
theorem LJ.block (h : LJ P a s x y) (tt : Int32) : ∃ t : Nat, (¬ r_xIsT x.2.1 tt = 0 → t < 4 ∧ tt = nI t) ∧ (r_oOut y.1 tt 4 = 0 → t < 4 ∧ tt = nI t) ∧ r_xBlock x.2.1 tt t = r_oBlock y.1 tt t := by
  rcases vcase tt (n := 4) (by decide) with ⟨t, ht, rfl⟩ | hn
  · have e1 := isT_y (iv := x.2.1) ht
    have e2 : r_oOut y.1 (nI t) 4 = 0 := out_y (n := 4) ht (by decide)
    refine ⟨t, fun _ => ⟨ht, rfl⟩, fun _ => ⟨ht, rfl⟩, ?_⟩
    unfold r_xBlock r_oBlock
    rw [if_neg (by rw [e1]; decide), if_pos e2, h.cc.bl t ht, h.sr.bl t ht]
  · have e1 := isT_n (iv := x.2.1) hn
    have e2 : r_oOut y.1 tt 4 = 1 := out_n (w := 4) hn
    refine ⟨4, fun q => absurd e1 q, fun q => absurd q (by rw [e2]; decide), ?_⟩
    unfold r_xBlock r_oBlock
    rw [if_pos e1, if_neg (by rw [e2]; decide)]
theorem LJ.outcome (h : LJ P a s x y) (k : Int32) : ∃ kx : Nat, x.1 41 < 2 ^ 31 ∧ (¬ k < 0 → ¬ x.2.1 36 10 ≤ k → kx < x.1 41 ∧ k = nI kx) ∧ (r_oOut y.1 k (y.1 0 23) = 0 → kx < 3001 ∧ k = nI kx) ∧ r_xOutcome x.2.1 x.2.2 k kx = r_oOutcome y.1 y.2 k kx := by
  have hL := h.L
  have hle := h.cc.le
  have hc := h.cc.cap
  have h31 : x.1 41 < 2 ^ 31 := by unfold capO at hc; omega
  rcases vcase k (n := s.L) (by omega) with ⟨kx, hk, rfl⟩ | hn
  · refine ⟨kx, h31, fun _ _ => ⟨by omega, rfl⟩, fun _ => ⟨by omega, rfl⟩, ?_⟩
    unfold r_xOutcome r_hOutAt r_oOutcome
    rw [if_neg (nlt0 (by omega)), h.cc.len, if_neg (by rw [qLe (by omega) (by omega)]; omega), h.sr.len, if_pos (out_y hk (by omega)), h.cc.row kx hk, h.sr.out kx hk]
  · refine ⟨0, h31, fun q1 q2 => ?_, fun q => ?_, ?_⟩
    · rw [h.cc.len] at q2
      rcases hn with e | e
      · exact absurd e q1
      · exact absurd (nle_of e) q2
    · rw [h.sr.len, out_n hn] at q; exact absurd q (by decide)
    · unfold r_xOutcome r_hOutAt r_oOutcome
      rw [h.sr.len, if_neg (show ¬ r_oOut y.1 k (nI s.L) = 0 by rw [out_n hn]; decide), h.cc.len]
      by_cases q : k < 0
      · rw [if_pos q]
      · rw [if_neg q, if_pos (nle_of (by rcases hn with e | e; exact absurd e q; exact e))]
end
