theorem qA (a b : Nat) : nI (a + b) = nI a + nI b := Int32.ofNat_add a b
theorem qM (a b : Nat) : nI (a * b) = nI a * nI b := Int32.ofNat_mul a b
theorem qS (a : Nat) : nI (a + 1) = nI a + 1 := Int32.ofNat_add a 1
theorem qLe {a b : Nat} (ha : a < 2 ^ 31) (hb : b < 2 ^ 31) : nI a ≤ nI b ↔ a ≤ b := Int32.ofNat_le_iff_le ha hb
theorem qLt {a b : Nat} (ha : a < 2 ^ 31) (hb : b < 2 ^ 31) : nI a < nI b ↔ a < b := Int32.ofNat_lt_iff_lt ha hb
theorem qC {a : Nat} (ha : a < 2 ^ 31) : (nI a).toNatClampNeg = a := Int32.toNatClampNeg_ofNat_of_lt ha
theorem qE {a b : Nat} (ha : a < 2 ^ 31) (hb : b < 2 ^ 31) : nI a = nI b ↔ a = b := ⟨fun h => by rw [← qC ha, ← qC hb, h], fun h => by rw [h]⟩
theorem qI {a : Nat} (ha : a < 2 ^ 31) : (nI a).toInt = a := Int32.toInt_ofNat_of_lt ha
theorem q0 : (0 : Int32) = nI 0 := rfl
theorem q1 : (1 : Int32) = nI 1 := rfl
theorem q2 : (2 : Int32) = nI 2 := rfl
theorem q3 : (3 : Int32) = nI 3 := rfl
theorem q4 : (4 : Int32) = nI 4 := rfl
theorem qL {a n : Nat} (ha : a < 2 ^ 31) (hn : n < 2 ^ 31) : nI a = OfNat.ofNat n ↔ a = n := qE ha hn
theorem qm1 {a : Nat} (ha : a < 2 ^ 31) : nI a - 1 = -1 ↔ a = 0 := by
  constructor
  · intro h
    have h1 : nI a = 0 := by
      have : nI a - 1 + 1 = -1 + 1 := by rw [h]
      rw [Int32.sub_add_cancel] at this
      exact this
    exact (qE ha (by decide)).1 h1
  · intro h; subst h; rfl
theorem qmt {a t : Nat} (ha : a < 2 ^ 31) (ht : t + 1 < 2 ^ 31) : nI a - 1 = nI t ↔ a = t + 1 := by
  constructor
  · intro h
    have h1 : nI a = nI (t + 1) := by
      have : nI a - 1 + 1 = nI t + 1 := by rw [h]
      rw [Int32.sub_add_cancel] at this
      rw [this, qS]
    exact (qE ha ht).1 h1
  · intro h; subst h; rw [qS, Int32.add_sub_cancel]
theorem qpred {a : Nat} (h : 1 ≤ a) : nI a - 1 = nI (a - 1) := by
  have h1 : a = (a - 1) + 1 := by omega
  rw [h1, qS, Int32.add_sub_cancel, Nat.add_sub_cancel]
def CT (g : Nat → Int32) (x : TH) : Prop := g 0 = nI x.st ∧ g 1 = nI x.pl ∧ g 2 = nI x.kp ∧ g 3 = nI x.fi ∧ g 4 = nI x.fp ∧ g 5 = nI x.fs ∧ g 7 = nI (12 ^ x.n + x.r)
def CM (g s : Nat → Int32) (y : MO) : Prop := g 0 = nI y.ow - 1 ∧ g 1 = nI y.de ∧ g 2 = nI y.q.length ∧ ∀ j, j < y.q.length → s j = nI (y.q.getD j 0)
def FR (mi : Nat) (iv0 iv : Nat → Nat → Int32) : Prop := ∀ c, ¬ (20 + 4 * mi ≤ c ∧ c < 24 + 4 * mi) → ¬ (28 + 2 * mi ≤ c ∧ c < 30 + 2 * mi) → ¬ (32 + 2 * mi ≤ c ∧ c < 34 + 2 * mi) → iv c = iv0 c
def CR (iv0 iv : Nat → Nat → Int32) (mi : Nat) (a : AS) : Prop := (∀ t, t < 4 → CT (iv (20 + 4 * mi + t)) (a.th t)) ∧ (∀ m, m < 2 → CM (iv (28 + 2 * mi + m)) (iv (32 + 2 * mi + m)) (a.mo m)) ∧ (FR mi iv0 iv)
theorem CR.th {iv0 iv : Nat → Nat → Int32} {mi : Nat} {a : AS} (h9 : CR iv0 iv mi a) : ∀ t, t < 4 → CT (iv (20 + 4 * mi + t)) (a.th t) := h9.1
theorem CR.mo {iv0 iv : Nat → Nat → Int32} {mi : Nat} {a : AS} (h9 : CR iv0 iv mi a) : ∀ m, m < 2 → CM (iv (28 + 2 * mi + m)) (iv (32 + 2 * mi + m)) (a.mo m) := h9.2.1
theorem CR.fr {iv0 iv : Nat → Nat → Int32} {mi : Nat} {a : AS} (h9 : CR iv0 iv mi a) : FR mi iv0 iv := h9.2.2
def CP (iv : Nat → Nat → Int32) (P : PR) : Prop := (∀ t, t < 4 → iv (2 + t) 2 = nI (P.len t)) ∧ (∀ t p, t < 4 → p < P.len t → iv (6 + t) p = nI (P.act t p)) ∧ (∀ t p, t < 4 → p < P.len t → P.act t p < 6 ∨ P.act t p = 6 ∨ P.act t p = 8 ∨ P.act t p = 9 ∨ P.act t p = 11 → iv (10 + t) p = nI (P.opd t p)) ∧ (∀ mi, mi < 2 → iv (14 + mi) 2 = nI P.loose)
theorem CP.len {iv : Nat → Nat → Int32} {P : PR} (h9 : CP iv P) : ∀ t, t < 4 → iv (2 + t) 2 = nI (P.len t) := h9.1
theorem CP.act {iv : Nat → Nat → Int32} {P : PR} (h9 : CP iv P) : ∀ t p, t < 4 → p < P.len t → iv (6 + t) p = nI (P.act t p) := h9.2.1
theorem CP.opd {iv : Nat → Nat → Int32} {P : PR} (h9 : CP iv P) : ∀ t p, t < 4 → p < P.len t → P.act t p < 6 ∨ P.act t p = 6 ∨ P.act t p = 8 ∨ P.act t p = 9 ∨ P.act t p = 11 → iv (10 + t) p = nI (P.opd t p) := h9.2.2.1
theorem CP.loose {iv : Nat → Nat → Int32} {P : PR} (h9 : CP iv P) : ∀ mi, mi < 2 → iv (14 + mi) 2 = nI P.loose := h9.2.2.2
theorem CP.of {iv iv' : Nat → Nat → Int32} {P : PR} {mi : Nat} (hmi : mi < 2) (h : CP iv P) (hf : FR mi iv iv') : CP iv' P :=
  ⟨fun t ht => by rw [hf _ (by omega) (by omega) (by omega)]; exact h.len t ht,
   fun t p ht hp => by rw [hf _ (by omega) (by omega) (by omega)]; exact h.act t p ht hp,
   fun t p ht hp hc => by rw [hf _ (by omega) (by omega) (by omega)]; exact h.opd t p ht hp hc,
   fun m hm => by rw [hf _ (by omega) (by omega) (by omega)]; exact h.loose m hm⟩
theorem u2s {f : Nat → Nat → Int32} {c k : Nat} {v : Int32} : up2 f c k v c = upd (f c) k v := by simp [up2]
theorem u2n {f : Nat → Nat → Int32} {c k a : Nat} {v : Int32} (h : a ≠ c) : up2 f c k v a = f a := by simp [up2, h]
theorem CR.up {iv0 iv : Nat → Nat → Int32} {mi : Nat} {a : AS} (h : CR iv0 iv mi a) (hmi : mi < 2) {t k : Nat} (ht : t < 4) {v : Int32} {x : TH} (hx : CT (upd (iv (20 + 4 * mi + t)) k v) x) : CR iv0 (up2 iv (20 + 4 * mi + t) k v) mi (sT a t x) :=
  ⟨fun u hu => by
    show CT _ (if u = t then x else a.th u)
    split
    · rename_i e; subst e; rw [u2s]; exact hx
    · rw [u2n (by omega)]; exact h.th u hu,
   fun m hm => by rw [u2n (by omega), u2n (by omega)]; exact h.mo m hm,
   fun c h1 h2 h3 => by rw [u2n (by omega)]; exact h.fr c h1 h2 h3⟩
theorem CR.upM {iv0 iv : Nat → Nat → Int32} {mi : Nat} {a : AS} (h : CR iv0 iv mi a) (hmi : mi < 2) {m k : Nat} (hm : m < 2) {v : Int32} {y : MO} (hy : CM (upd (iv (28 + 2 * mi + m)) k v) (iv (32 + 2 * mi + m)) y) : CR iv0 (up2 iv (28 + 2 * mi + m) k v) mi (sM a m y) :=
  ⟨fun u hu => by rw [u2n (by omega)]; exact h.th u hu,
   fun m' hm' => by
    show CM _ _ (if m' = m then y else a.mo m')
    rw [u2n (a := 32 + 2 * mi + m') (by omega)]
    split
    · rename_i e; subst e; rw [u2s]; exact hy
    · rw [u2n (by omega)]; exact h.mo m' hm',
   fun c h1 h2 h3 => by rw [u2n (by omega)]; exact h.fr c h1 h2 h3⟩
section
variable {iv0 iv : Nat → Nat → Int32} {mi : Nat} {a : AS} {P : PR}
theorem CR.st (h : CR iv0 iv mi a) (hmi : mi < 2) {t : Nat} (ht : t < 4) (v : Nat) : CR iv0 (up2 iv (20 + 4 * mi + t) 0 (nI v)) mi (sT a t (TH.mk v ((a.th t).pl) ((a.th t).kp) ((a.th t).fi) ((a.th t).fp) ((a.th t).fs) ((a.th t).n) ((a.th t).r))) := h.up hmi ht (by have h1 := h.th t ht; exact ⟨by simp [upd], h1.2.1, h1.2.2.1, h1.2.2.2.1, h1.2.2.2.2.1, h1.2.2.2.2.2.1, h1.2.2.2.2.2.2⟩)
theorem CR.pl (h : CR iv0 iv mi a) (hmi : mi < 2) {t : Nat} (ht : t < 4) (v : Nat) : CR iv0 (up2 iv (20 + 4 * mi + t) 1 (nI v)) mi (sT a t (TH.mk ((a.th t).st) v ((a.th t).kp) ((a.th t).fi) ((a.th t).fp) ((a.th t).fs) ((a.th t).n) ((a.th t).r))) := h.up hmi ht (by have h1 := h.th t ht; exact ⟨h1.1, by simp [upd], h1.2.2.1, h1.2.2.2.1, h1.2.2.2.2.1, h1.2.2.2.2.2.1, h1.2.2.2.2.2.2⟩)
theorem CR.kp (h : CR iv0 iv mi a) (hmi : mi < 2) {t : Nat} (ht : t < 4) (v : Nat) : CR iv0 (up2 iv (20 + 4 * mi + t) 2 (nI v)) mi (sT a t (TH.mk ((a.th t).st) ((a.th t).pl) v ((a.th t).fi) ((a.th t).fp) ((a.th t).fs) ((a.th t).n) ((a.th t).r))) := h.up hmi ht (by have h1 := h.th t ht; exact ⟨h1.1, h1.2.1, by simp [upd], h1.2.2.2.1, h1.2.2.2.2.1, h1.2.2.2.2.2.1, h1.2.2.2.2.2.2⟩)
theorem CR.fi (h : CR iv0 iv mi a) (hmi : mi < 2) {t : Nat} (ht : t < 4) (v : Nat) : CR iv0 (up2 iv (20 + 4 * mi + t) 3 (nI v)) mi (sT a t (TH.mk ((a.th t).st) ((a.th t).pl) ((a.th t).kp) v ((a.th t).fp) ((a.th t).fs) ((a.th t).n) ((a.th t).r))) := h.up hmi ht (by have h1 := h.th t ht; exact ⟨h1.1, h1.2.1, h1.2.2.1, by simp [upd], h1.2.2.2.2.1, h1.2.2.2.2.2.1, h1.2.2.2.2.2.2⟩)
theorem CR.fp (h : CR iv0 iv mi a) (hmi : mi < 2) {t : Nat} (ht : t < 4) (v : Nat) : CR iv0 (up2 iv (20 + 4 * mi + t) 4 (nI v)) mi (sT a t (TH.mk ((a.th t).st) ((a.th t).pl) ((a.th t).kp) ((a.th t).fi) v ((a.th t).fs) ((a.th t).n) ((a.th t).r))) := h.up hmi ht (by have h1 := h.th t ht; exact ⟨h1.1, h1.2.1, h1.2.2.1, h1.2.2.2.1, by simp [upd], h1.2.2.2.2.2.1, h1.2.2.2.2.2.2⟩)
theorem CR.fs (h : CR iv0 iv mi a) (hmi : mi < 2) {t : Nat} (ht : t < 4) (v : Nat) : CR iv0 (up2 iv (20 + 4 * mi + t) 5 (nI v)) mi (sT a t (TH.mk ((a.th t).st) ((a.th t).pl) ((a.th t).kp) ((a.th t).fi) ((a.th t).fp) v ((a.th t).n) ((a.th t).r))) := h.up hmi ht (by have h1 := h.th t ht; exact ⟨h1.1, h1.2.1, h1.2.2.1, h1.2.2.2.1, h1.2.2.2.2.1, by simp [upd], h1.2.2.2.2.2.2⟩)
theorem CR.put (h : CR iv0 iv mi a) (hmi : mi < 2) {t : Nat} (ht : t < 4) (l : Nat) : CR iv0 (m_wPut iv mi t (nI l)) mi (sT a t (aPut (a.th t) l)) := by
  have h1 := h.th t ht
  refine h.up hmi ht ?_
  refine ⟨h1.1, h1.2.1, h1.2.2.1, h1.2.2.2.1, h1.2.2.2.2.1, h1.2.2.2.2.2.1, ?_⟩
  show (if (7 : Nat) = 7 then _ else _) = nI (12 ^ ((a.th t).n + 1) + (12 * (a.th t).r + l))
  rw [if_pos rfl, h1.2.2.2.2.2.2, show (12 : Int32) = nI 12 from rfl, ← qM, ← qA]
  congr 1
  rw [Nat.pow_succ]; omega
theorem CR.run (h : CR iv0 iv mi a) (hP : okPR P) (hC : CP iv P) (hmi : mi < 2) {t : Nat} (ht : t < 4) (hl : (a.th t).pl < P.len t) : CR iv0 (m_wRunOn iv mi t) mi (aGo P a t) := by
  have h1 := h.th t ht
  have hlen := hP.len t ht
  have hp : iv (20 + 4 * mi + t) 1 + 1 = nI ((a.th t).pl + 1) := by rw [h1.2.1, qS]
  unfold m_wRunOn
  rw [hp]
  have h2 := h.pl hmi ht ((a.th t).pl + 1)
  have e1 : (up2 iv (20 + 4 * mi + t) 1 (nI ((a.th t).pl + 1))) (2 + t) 2 = nI (P.len t) := by rw [u2n (by omega)]; exact hC.len t ht
  have e2 : (up2 iv (20 + 4 * mi + t) 1 (nI ((a.th t).pl + 1))) (20 + 4 * mi + t) 1 = nI ((a.th t).pl + 1) := by rw [u2s]; simp [upd]
  rw [e1, e2]
  have e3 : (if nI (P.len t) ≤ nI ((a.th t).pl + 1) then (4 : Int32) else 0) = nI (if P.len t ≤ (a.th t).pl + 1 then 4 else 0) := by
    simp only [qLe (a := P.len t) (b := (a.th t).pl + 1) (by omega) (by omega)]
    split <;> rfl
  rw [e3]
  have h3 := h2.st hmi ht (if P.len t ≤ (a.th t).pl + 1 then 4 else 0)
  rw [sT_sT, sT_th] at h3
  exact h3
theorem CR.goCP (h : CR iv0 iv mi a) (hC : CP iv0 P) (hmi : mi < 2) : CP iv P := hC.of hmi h.fr
theorem dropL_sp {c v0 sz : Nat} (hv0 : v0 < 4) : ∀ (k lf : Nat) (iv : Nat → Nat → Int32) (l1 l2 : List Nat), l1.length = lf → l2.length = k → lf + k ≤ sz → (∀ j, j < lf → iv c j = nI (l1.getD j 0)) → (∀ j, j < k → iv c (sz - k + j) = nI (l2.getD j 0)) → (∀ v, v ∈ l2 → v < 4) →
    (dropL c (nI v0) sz k lf iv).2 = (l1 ++ l2.filter (· != v0)).length ∧ (∀ j, j < (l1 ++ l2.filter (· != v0)).length → (dropL c (nI v0) sz k lf iv).1 c j = nI ((l1 ++ l2.filter (· != v0)).getD j 0)) ∧ ∀ b, b ≠ c → (dropL c (nI v0) sz k lf iv).1 b = iv b
  | 0, lf, iv, l1, l2, h1, h2, _, h4, _, _ => by
    have : l2 = [] := List.length_eq_zero_iff.1 h2
    subst this
    simp only [List.filter_nil, List.append_nil]
    rw [dropL]
    exact ⟨h1.symm, fun j hj => h4 j (by omega), fun b _ => rfl⟩
  | k + 1, lf, iv, l1, l2, h1, h2, h3, h4, h5, h6 => by
    match l2, h2, h5, h6 with
    | v :: l2, h2, h5, h6 =>
      have hv4 := h6 v (by simp)
      have hv : iv c (sz - (k + 1)) = nI v := by have := h5 0 (by omega); simpa using this
      have h2' : l2.length = k := by simpa using h2
      rw [dropL]
      by_cases hvv : v = v0
      · rw [if_pos (by rw [hv, hvv])]
        have h7 : (v :: l2).filter (· != v0) = l2.filter (· != v0) := by simp [hvv]
        rw [h7]
        refine dropL_sp hv0 k lf iv l1 l2 h1 h2' (by omega) h4 (fun j hj => ?_) (fun w hw => h6 w (by simp [hw]))
        have := h5 (j + 1) (by omega)
        rw [show sz - (k + 1) + (j + 1) = sz - k + j by omega] at this
        simpa using this
      · rw [if_neg (by rw [hv]; intro e; exact hvv ((qE (by omega) (by omega)).1 e))]
        have h7 : l1 ++ (v :: l2).filter (· != v0) = (l1 ++ [v]) ++ l2.filter (· != v0) := by simp [hvv]
        rw [h7]
        have ih := dropL_sp (c := c) (sz := sz) hv0 k (lf + 1) (up2 iv c lf (iv c (sz - (k + 1)))) (l1 ++ [v]) l2 (by simp [h1]) h2' (by omega) (fun j hj => by
          rw [u2s]
          unfold upd
          split
          · rename_i e; rw [hv, e, ← h1]; simp
          · rename_i e
            rw [h4 j (by omega)]
            congr 1
            rw [List.getD_eq_getElem?_getD, List.getD_eq_getElem?_getD, List.getElem?_append_left (by omega)]) (fun j hj => by
          rw [u2s]
          unfold upd
          rw [if_neg (by omega)]
          have := h5 (j + 1) (by omega)
          rw [show sz - (k + 1) + (j + 1) = sz - k + j by omega] at this
          simpa using this) (fun w hw => h6 w (by simp [hw]))
        exact ⟨ih.1, ih.2.1, fun b hb => by rw [ih.2.2 b hb, u2n hb]⟩
theorem CR.drop (h : CR iv0 iv mi a) (hmi : mi < 2) {m v : Nat} (hm : m < 2) (hv : v < 4) (hnd : (a.mo m).q.Nodup) (hq : ∀ w, w ∈ (a.mo m).q → w < 4) : CR iv0 (m_mDrop iv mi m (nI v) (a.mo m).q.length) mi (sM a m (MO.mk ((a.mo m).ow) ((a.mo m).de) ((a.mo m).q.erase v))) := by
  have hM := h.mo m hm
  obtain ⟨e1, e2, e3⟩ := dropL_sp (c := 32 + 2 * mi + m) (v0 := v) (sz := (a.mo m).q.length) hv (a.mo m).q.length 0 iv [] (a.mo m).q rfl rfl (by omega) (fun j hj => absurd hj (Nat.not_lt_zero _)) (fun j hj => by rw [Nat.sub_self, Nat.zero_add]; exact hM.2.2.2 j hj) hq
  simp only [List.nil_append] at e1 e2
  rw [← hnd.erase_eq_filter] at e1 e2
  unfold m_mDrop
  refine ⟨fun u hu => ?_, fun m' hm' => ?_, fun c h1 h2 h3 => ?_⟩
  · rw [u2n (by omega), e3 _ (by omega)]; exact h.th u hu
  · show CM _ _ (if m' = m then _ else a.mo m')
    split
    · rename_i e; subst e
      rw [u2s, u2n (by omega), e3 _ (by omega)]
      refine ⟨hM.1, hM.2.1, ?_, e2⟩
      show (if 2 = 2 then _ else _) = _
      rw [if_pos rfl, e1]
    · rw [u2n (by omega), u2n (by omega), e3 _ (by omega), e3 _ (by omega)]
      exact h.mo m' hm'
  · rw [u2n (by omega), e3 _ (by omega)]; exact h.fr c h1 h2 h3
end
