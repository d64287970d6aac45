def pR (e t : Nat) (x : TH) : Nat := x.pl + (if x.st = 1 ∨ x.st = 2 ∨ x.st = 3 ∨ t = e then 1 else 0)
def RT (jv : Nat → Nat → Int32) (lv : Nat → Nat → Int64) (e t : Nat) (x : TH) : Prop := jv 5 t = nI x.st ∧ jv 4 t = nI (pR e t x) ∧ jv 6 t = nI x.kp ∧ jv 7 t = nI x.n ∧ lv 8 t = Int64.ofNat x.r ∧ jv 9 t = nI x.fi ∧ jv 10 t = nI x.fp ∧ jv 11 t = nI x.fs
def RM2 (jv : Nat → Nat → Int32) (m : Nat) (y : MO) : Prop := jv 12 m = nI y.ow - 1 ∧ jv 13 m = nI y.de ∧ jv 14 m = nI y.q.length ∧ ∀ j, j < y.q.length → jv 15 (4 * m + j) = nI (y.q.getD j 0)
def RR (jv0 : Nat → Nat → Int32) (lv0 : Nat → Nat → Int64) (jv : Nat → Nat → Int32) (lv : Nat → Nat → Int64) (e : Nat) (a : AS) : Prop := (∀ t, t < 4 → RT jv lv e t (a.th t)) ∧ (∀ m, m < 2 → RM2 jv m (a.mo m)) ∧ (∀ c, c < 4 ∨ 16 ≤ c → jv c = jv0 c) ∧ (∀ c, ¬ c = 8 → lv c = lv0 c)
theorem RR.th {jv0 : Nat → Nat → Int32} {lv0 : Nat → Nat → Int64} {jv : Nat → Nat → Int32} {lv : Nat → Nat → Int64} {e : Nat} {a : AS} (h9 : RR jv0 lv0 jv lv e a) : ∀ t, t < 4 → RT jv lv e t (a.th t) := h9.1
theorem RR.mo {jv0 : Nat → Nat → Int32} {lv0 : Nat → Nat → Int64} {jv : Nat → Nat → Int32} {lv : Nat → Nat → Int64} {e : Nat} {a : AS} (h9 : RR jv0 lv0 jv lv e a) : ∀ m, m < 2 → RM2 jv m (a.mo m) := h9.2.1
theorem RR.fr {jv0 : Nat → Nat → Int32} {lv0 : Nat → Nat → Int64} {jv : Nat → Nat → Int32} {lv : Nat → Nat → Int64} {e : Nat} {a : AS} (h9 : RR jv0 lv0 jv lv e a) : ∀ c, c < 4 ∨ 16 ≤ c → jv c = jv0 c := h9.2.2.1
theorem RR.fl {jv0 : Nat → Nat → Int32} {lv0 : Nat → Nat → Int64} {jv : Nat → Nat → Int32} {lv : Nat → Nat → Int64} {e : Nat} {a : AS} (h9 : RR jv0 lv0 jv lv e a) : ∀ c, ¬ c = 8 → lv c = lv0 c := h9.2.2.2
def RP (jv : Nat → Nat → Int32) (P : PR) : Prop := (∀ t, t < 4 → jv 3 t = nI (P.len t)) ∧ (∀ t p, t < 4 → p < P.len t → jv 1 (6 * t + p) = nI (P.act t p)) ∧ (∀ t p, t < 4 → p < P.len t → P.act t p < 6 ∨ P.act t p = 6 ∨ P.act t p = 8 ∨ P.act t p = 9 ∨ P.act t p = 11 → jv 2 (6 * t + p) = nI (P.opd t p)) ∧ (jv 0 0 = nI P.loose)
theorem RP.len {jv : Nat → Nat → Int32} {P : PR} (h9 : RP jv P) : ∀ t, t < 4 → jv 3 t = nI (P.len t) := h9.1
theorem RP.act {jv : Nat → Nat → Int32} {P : PR} (h9 : RP jv P) : ∀ t p, t < 4 → p < P.len t → jv 1 (6 * t + p) = nI (P.act t p) := h9.2.1
theorem RP.opd {jv : Nat → Nat → Int32} {P : PR} (h9 : RP jv P) : ∀ t p, t < 4 → p < P.len t → P.act t p < 6 ∨ P.act t p = 6 ∨ P.act t p = 8 ∨ P.act t p = 9 ∨ P.act t p = 11 → jv 2 (6 * t + p) = nI (P.opd t p) := h9.2.2.1
theorem RP.loose {jv : Nat → Nat → Int32} {P : PR} (h9 : RP jv P) : jv 0 0 = nI P.loose := h9.2.2.2
theorem RP.of {jv jv' : Nat → Nat → Int32} {P : PR} (h : RP jv P) (hf : ∀ c, c < 4 → jv' c = jv c) : RP jv' P :=
  ⟨fun t ht => by rw [hf _ (by omega)]; exact h.len t ht,
   fun t p ht hp => by rw [hf _ (by omega)]; exact h.act t p ht hp,
   fun t p ht hp hc => by rw [hf _ (by omega)]; exact h.opd t p ht hp hc,
   by rw [hf _ (by omega)]; exact h.loose⟩
theorem q64 {l : Nat} (hl : l < 2 ^ 31) : (nI l).toInt64 = Int64.ofNat l := by
  apply Int64.toInt_inj.1
  rw [Int32.toInt_toInt64, qI hl, Int64.toInt_ofNat_of_lt (by omega)]
section
variable {jv0 jv : Nat → Nat → Int32} {lv0 lv : Nat → Nat → Int64} {e : Nat} {a : AS} {P : PR}
theorem RR.up (h : RR jv0 lv0 jv lv e a) {c t : Nat} (hc : 4 ≤ c ∧ c ≤ 11) {v : Int32} {x : TH} (hx : RT (up2 jv c t v) lv e t x) : RR jv0 lv0 (up2 jv c t v) lv e (sT a t x) :=
  ⟨fun u hu => by
    show RT _ _ _ _ (if u = t then x else a.th u)
    split
    · rename_i q; subst q; exact hx
    · rename_i q
      have h1 := h.th u hu
      have key : ∀ d, up2 jv c t v d u = jv d u := fun d => by
        unfold up2
        split
        · rename_i e2; subst e2; unfold upd; rw [if_neg q]
        · rfl
      unfold RT
      simp only [key]
      exact h1,
   fun m hm => by
    unfold RM2
    rw [u2n (by omega), u2n (by omega), u2n (by omega), u2n (by omega)]
    exact h.mo m hm,
   fun d hd => by rw [u2n (by omega)]; exact h.fr d hd,
   h.fl⟩
theorem RR.st (h : RR jv0 lv0 jv lv e a) {t : Nat} (ht : t < 4) (v : Nat) (hp : pR e t (a.th t) = pR e t (TH.mk v ((a.th t).pl) ((a.th t).kp) ((a.th t).fi) ((a.th t).fp) ((a.th t).fs) ((a.th t).n) ((a.th t).r))) : RR jv0 lv0 (up2 jv 5 t (nI v)) lv e (sT a t (TH.mk v ((a.th t).pl) ((a.th t).kp) ((a.th t).fi) ((a.th t).fp) ((a.th t).fs) ((a.th t).n) ((a.th t).r))) := h.up (by omega) (by
  have h1 := h.th t ht
  refine ⟨by simp [up2, upd], ?_, ?_, ?_, ?_, ?_, ?_, ?_⟩
  · rw [u2n (by decide), ← hp]; exact h1.2.1
  · rw [u2n (by decide)]; exact h1.2.2.1
  · rw [u2n (by decide)]; exact h1.2.2.2.1
  · exact h1.2.2.2.2.1
  · rw [u2n (by decide)]; exact h1.2.2.2.2.2.1
  · rw [u2n (by decide)]; exact h1.2.2.2.2.2.2.1
  · rw [u2n (by decide)]; exact h1.2.2.2.2.2.2.2)
theorem RR.kp (h : RR jv0 lv0 jv lv e a) {t : Nat} (ht : t < 4) (v : Nat) : RR jv0 lv0 (up2 jv 6 t (nI v)) lv e (sT a t (TH.mk ((a.th t).st) ((a.th t).pl) v ((a.th t).fi) ((a.th t).fp) ((a.th t).fs) ((a.th t).n) ((a.th t).r))) := h.up (by omega) (by
  have h1 := h.th t ht
  refine ⟨?_, ?_, by simp [up2, upd], ?_, ?_, ?_, ?_, ?_⟩
  · rw [u2n (by decide)]; exact h1.1
  · rw [u2n (by decide)]; exact h1.2.1
  · rw [u2n (by decide)]; exact h1.2.2.2.1
  · exact h1.2.2.2.2.1
  · rw [u2n (by decide)]; exact h1.2.2.2.2.2.1
  · rw [u2n (by decide)]; exact h1.2.2.2.2.2.2.1
  · rw [u2n (by decide)]; exact h1.2.2.2.2.2.2.2)
theorem RR.fi (h : RR jv0 lv0 jv lv e a) {t : Nat} (ht : t < 4) (v : Nat) : RR jv0 lv0 (up2 jv 9 t (nI v)) lv e (sT a t (TH.mk ((a.th t).st) ((a.th t).pl) ((a.th t).kp) v ((a.th t).fp) ((a.th t).fs) ((a.th t).n) ((a.th t).r))) := h.up (by omega) (by
  have h1 := h.th t ht
  refine ⟨?_, ?_, ?_, ?_, ?_, by simp [up2, upd], ?_, ?_⟩
  · rw [u2n (by decide)]; exact h1.1
  · rw [u2n (by decide)]; exact h1.2.1
  · rw [u2n (by decide)]; exact h1.2.2.1
  · rw [u2n (by decide)]; exact h1.2.2.2.1
  · exact h1.2.2.2.2.1
  · rw [u2n (by decide)]; exact h1.2.2.2.2.2.2.1
  · rw [u2n (by decide)]; exact h1.2.2.2.2.2.2.2)
theorem RR.fp (h : RR jv0 lv0 jv lv e a) {t : Nat} (ht : t < 4) (v : Nat) : RR jv0 lv0 (up2 jv 10 t (nI v)) lv e (sT a t (TH.mk ((a.th t).st) ((a.th t).pl) ((a.th t).kp) ((a.th t).fi) v ((a.th t).fs) ((a.th t).n) ((a.th t).r))) := h.up (by omega) (by
  have h1 := h.th t ht
  refine ⟨?_, ?_, ?_, ?_, ?_, ?_, by simp [up2, upd], ?_⟩
  · rw [u2n (by decide)]; exact h1.1
  · rw [u2n (by decide)]; exact h1.2.1
  · rw [u2n (by decide)]; exact h1.2.2.1
  · rw [u2n (by decide)]; exact h1.2.2.2.1
  · exact h1.2.2.2.2.1
  · rw [u2n (by decide)]; exact h1.2.2.2.2.2.1
  · rw [u2n (by decide)]; exact h1.2.2.2.2.2.2.2)
theorem RR.fs (h : RR jv0 lv0 jv lv e a) {t : Nat} (ht : t < 4) (v : Nat) : RR jv0 lv0 (up2 jv 11 t (nI v)) lv e (sT a t (TH.mk ((a.th t).st) ((a.th t).pl) ((a.th t).kp) ((a.th t).fi) ((a.th t).fp) v ((a.th t).n) ((a.th t).r))) := h.up (by omega) (by
  have h1 := h.th t ht
  refine ⟨?_, ?_, ?_, ?_, ?_, ?_, ?_, by simp [up2, upd]⟩
  · rw [u2n (by decide)]; exact h1.1
  · rw [u2n (by decide)]; exact h1.2.1
  · rw [u2n (by decide)]; exact h1.2.2.1
  · rw [u2n (by decide)]; exact h1.2.2.2.1
  · exact h1.2.2.2.2.1
  · rw [u2n (by decide)]; exact h1.2.2.2.2.2.1
  · rw [u2n (by decide)]; exact h1.2.2.2.2.2.2.1)
theorem RR.put (h : RR jv0 lv0 jv lv e a) {t : Nat} (ht : t < 4) (l : Nat) (hl : l < 12) (iv : Nat → Nat → Int32) : RR jv0 lv0 (m_oPut jv t (nI l)) (n_oPut iv lv t (nI l)) e (sT a t (aPut (a.th t) l)) := by
  have h1 := h.th t ht
  unfold m_oPut n_oPut
  have e1 : (12 * lv 8 t + (nI l).toInt64) = Int64.ofNat (12 * (a.th t).r + l) := by
    rw [h1.2.2.2.2.1, q64 (by omega), Int64.ofNat_add, Int64.ofNat_mul]; rfl
  rw [e1, h1.2.2.2.1, ← qS]
  refine ⟨fun u hu => ?_, fun m hm => ?_, fun d hd => ?_, fun d hd => ?_⟩
  · show RT _ _ _ _ (if u = t then _ else a.th u)
    have h2 := h.th u hu
    split
    · rename_i q; subst q
      refine ⟨?_, ?_, ?_, ?_, ?_, ?_, ?_, ?_⟩
      · rw [u2n (by decide)]; exact h2.1
      · rw [u2n (by decide)]; exact h2.2.1
      · rw [u2n (by decide)]; exact h2.2.2.1
      · simp [up2, upd, aPut]
      · exact up2L_s
      · rw [u2n (by decide)]; exact h2.2.2.2.2.2.1
      · rw [u2n (by decide)]; exact h2.2.2.2.2.2.2.1
      · rw [u2n (by decide)]; exact h2.2.2.2.2.2.2.2
    · rename_i q
      refine ⟨?_, ?_, ?_, ?_, ?_, ?_, ?_, ?_⟩
      · rw [u2n (by decide)]; exact h2.1
      · rw [u2n (by decide)]; exact h2.2.1
      · rw [u2n (by decide)]; exact h2.2.2.1
      · rw [u2s]; unfold upd; rw [if_neg q]; exact h2.2.2.2.1
      · have : up2L lv 8 t (Int64.ofNat (12 * (a.th t).r + l)) 8 u = lv 8 u := by simp [up2L, vp_updL, q]
        rw [this]; exact h2.2.2.2.2.1
      · rw [u2n (by decide)]; exact h2.2.2.2.2.2.1
      · rw [u2n (by decide)]; exact h2.2.2.2.2.2.2.1
      · rw [u2n (by decide)]; exact h2.2.2.2.2.2.2.2
  · unfold RM2
    rw [u2n (by omega), u2n (by omega), u2n (by omega), u2n (by omega)]
    exact h.mo m hm
  · rw [u2n (by omega)]; exact h.fr d hd
  · have : up2L lv 8 t (Int64.ofNat (12 * (a.th t).r + l)) d = lv d := by simp [up2L, hd]
    rw [this]; exact h.fl d hd
theorem RR.mid (h : RR jv0 lv0 jv lv 4 a) {t : Nat} (ht : t < 4) : RR jv0 lv0 (up2 jv 4 t (nI ((a.th t).pl + 1))) lv t a := by
  refine ⟨fun u hu => ?_, fun m hm => ?_, fun d hd => ?_, h.fl⟩
  · have h2 := h.th u hu
    refine ⟨?_, ?_, ?_, ?_, h2.2.2.2.2.1, ?_, ?_, ?_⟩
    · rw [u2n (by decide)]; exact h2.1
    · rw [u2s]; unfold upd
      split
      · rename_i q; subst q; unfold pR; simp
      · rename_i q
        rw [h2.2.1]
        unfold pR
        simp [q, show ¬ u = 4 by omega]
    · rw [u2n (by decide)]; exact h2.2.2.1
    · rw [u2n (by decide)]; exact h2.2.2.2.1
    · rw [u2n (by decide)]; exact h2.2.2.2.2.2.1
    · rw [u2n (by decide)]; exact h2.2.2.2.2.2.2.1
    · rw [u2n (by decide)]; exact h2.2.2.2.2.2.2.2
  · unfold RM2
    rw [u2n (by omega), u2n (by omega), u2n (by omega), u2n (by omega)]
    exact h.mo m hm
  · rw [u2n (by omega)]; exact h.fr d hd
theorem RR.dim (h : RR jv0 lv0 jv lv e a) (he : (a.th e).st = 1 ∨ (a.th e).st = 2 ∨ (a.th e).st = 3) : RR jv0 lv0 jv lv 4 a := by
  refine ⟨fun u hu => ?_, h.mo, h.fr, h.fl⟩
  have h2 := h.th u hu
  have h3 : pR e u (a.th u) = pR 4 u (a.th u) := by
    unfold pR
    by_cases q : u = e
    · subst q; rcases he with he | he | he <;> simp [he]
    · simp [q, show ¬ u = 4 by omega]
  unfold RT at *
  rw [h3] at h2
  exact h2
theorem RR.run (h : RR jv0 lv0 jv lv e a) (hP : okPR P) (hC : RP jv P) {t e' : Nat} (ht : t < 4) (hl : (a.th t).pl < P.len t) (hpl : pR e t (a.th t) = (a.th t).pl + 1) (hne : ¬ t = e') (he : ∀ u, u < 4 → ¬ u = t → (u = e ↔ u = e')) : RR jv0 lv0 (m_oRun jv t) lv e' (aGo P a t) := by
  have h1 := h.th t ht
  have hlen := hP.len t ht
  unfold m_oRun
  have e1 : (if jv 4 t = jv 3 t then (4 : Int32) else 0) = nI (if P.len t ≤ (a.th t).pl + 1 then 4 else 0) := by
    rw [h1.2.1, hC.len t ht, hpl]
    simp only [nlit (c := (a.th t).pl + 1) (n := P.len t) (by omega) (by omega)]
    by_cases q : (a.th t).pl + 1 = P.len t
    · rw [if_pos q, if_pos (by omega)]; rfl
    · rw [if_neg q, if_neg (by omega)]; rfl
  rw [e1]
  refine ⟨fun u hu => ?_, fun m hm => ?_, fun d hd => ?_, h.fl⟩
  · show RT _ _ _ _ (if u = t then aRun P t (a.th t) else a.th u)
    have h2 := h.th u hu
    by_cases q : u = t
    · rw [if_pos q]; subst q
      refine ⟨by simp [up2, upd, aRun], ?_, ?_, ?_, h2.2.2.2.2.1, ?_, ?_, ?_⟩
      · rw [u2n (by decide), h2.2.1, hpl]
        congr 1
        show _ = (a.th u).pl + 1 + (if (if P.len u ≤ (a.th u).pl + 1 then 4 else 0) = 1 ∨ (if P.len u ≤ (a.th u).pl + 1 then 4 else 0) = 2 ∨ (if P.len u ≤ (a.th u).pl + 1 then 4 else 0) = 3 ∨ u = e' then 1 else 0)
        by_cases q : P.len u ≤ (a.th u).pl + 1 <;> simp [q, hne]
      · rw [u2n (by decide)]; exact h2.2.2.1
      · rw [u2n (by decide)]; exact h2.2.2.2.1
      · rw [u2n (by decide)]; exact h2.2.2.2.2.2.1
      · rw [u2n (by decide)]; exact h2.2.2.2.2.2.2.1
      · rw [u2n (by decide)]; exact h2.2.2.2.2.2.2.2
    · rw [if_neg q]
      have h3 : pR e u (a.th u) = pR e' u (a.th u) := by unfold pR; simp only [he u hu q]
      refine ⟨?_, ?_, ?_, ?_, h2.2.2.2.2.1, ?_, ?_, ?_⟩
      · rw [u2s]; unfold upd; rw [if_neg q]; exact h2.1
      · rw [u2n (by decide), ← h3]; exact h2.2.1
      · rw [u2n (by decide)]; exact h2.2.2.1
      · rw [u2n (by decide)]; exact h2.2.2.2.1
      · rw [u2n (by decide)]; exact h2.2.2.2.2.2.1
      · rw [u2n (by decide)]; exact h2.2.2.2.2.2.2.1
      · rw [u2n (by decide)]; exact h2.2.2.2.2.2.2.2
  · unfold RM2
    rw [u2n (by omega), u2n (by omega), u2n (by omega), u2n (by omega)]
    exact h.mo m hm
  · rw [u2n (by omega)]; exact h.fr d hd
end
