theorem sT_sT (a : AS) (t : Nat) (x y : TH) : sT (sT a t x) t y = sT a t y := by
  refine Prod.ext (funext fun u => ?_) rfl
  show (if u = t then y else (if u = t then x else a.th u)) = if u = t then y else a.th u
  by_cases h : u = t <;> simp [h]
theorem sT_th (a : AS) (t : Nat) (x : TH) : (sT a t x).th t = x := if_pos rfl
theorem sT_ne (a : AS) {t u : Nat} (x : TH) (h : ¬ u = t) : (sT a t x).th u = a.th u := if_neg h
theorem sT_mo (a : AS) (t : Nat) (x : TH) : (sT a t x).mo = a.mo := rfl
theorem sM_mo (a : AS) (m : Nat) (y : MO) : (sM a m y).mo m = y := if_pos rfl
theorem sM_ne (a : AS) {m u : Nat} (y : MO) (h : ¬ u = m) : (sM a m y).mo u = a.mo u := if_neg h
theorem sM_th (a : AS) (m : Nat) (y : MO) : (sM a m y).th = a.th := rfl
theorem sT_sM (a : AS) (t m : Nat) (x : TH) (y : MO) : sT (sM a m y) t x = sM (sT a t x) m y := rfl
theorem okTH.run {P : PR} {t : Nat} {x y : TH} (h : okTH P t x) (hl : x.pl < P.len t) (h2 : ¬ x.st = 2) (hp : y.pl = x.pl) (hk : y.kp ≤ x.kp) (hi : y.fi ≤ 1) (hpp : y.fp ≤ 1) (hs : y.fs ≤ 1) (hn : y.n ≤ x.n + 1) (hr : y.r < 12 ^ y.n) : okTH P t (aRun P t y) :=
  ⟨by show (if P.len t ≤ y.pl + 1 then 4 else 0) ≤ 4; split <;> omega,
   hi,
   hpp,
   hs,
   by show y.pl + 1 ≤ _; omega,
   by show ¬ (if P.len t ≤ y.pl + 1 then 4 else 0) = 4 → y.pl + 1 < _; split <;> omega,
   by
    have := h.n
    rw [if_neg h2] at this
    show y.n ≤ y.pl + 1 + _
    omega,
   hr,
   by have := h.kp; show y.kp ≤ y.pl + 1; omega,
   by show (if P.len t ≤ y.pl + 1 then 4 else 0) = 1 ∨ (if P.len t ≤ y.pl + 1 then 4 else 0) = 2 → _; split <;> omega⟩
theorem okTH.run2 {P : PR} {t : Nat} {x y : TH} (h : okTH P t x) (hl : x.pl < P.len t) (hp : y.pl = x.pl) (hk : y.kp ≤ x.kp) (hi : y.fi ≤ 1) (hpp : y.fp ≤ 1) (hs : y.fs ≤ 1) (hn : y.n ≤ x.n) (hr : y.r < 12 ^ y.n) : okTH P t (aRun P t y) :=
  ⟨by show (if P.len t ≤ y.pl + 1 then 4 else 0) ≤ 4; split <;> omega,
   hi,
   hpp,
   hs,
   by show y.pl + 1 ≤ _; omega,
   by show ¬ (if P.len t ≤ y.pl + 1 then 4 else 0) = 4 → y.pl + 1 < _; split <;> omega,
   by
    have := h.n
    have h3 : (if x.st = 2 then 1 else 0) ≤ 1 := by split <;> omega
    show y.n ≤ y.pl + 1 + _
    omega,
   hr,
   by have := h.kp; show y.kp ≤ y.pl + 1; omega,
   by show (if P.len t ≤ y.pl + 1 then 4 else 0) = 1 ∨ (if P.len t ≤ y.pl + 1 then 4 else 0) = 2 → _; split <;> omega⟩
theorem run_st (P : PR) (t : Nat) (x : TH) : ¬ (aRun P t x).st = 1 := by show ¬ (if P.len t ≤ x.pl + 1 then 4 else 0) = 1; split <;> omega
theorem put_r {x : TH} {l : Nat} (h : x.r < 12 ^ x.n) (hl : l < 12) : (aPut x l).r < 12 ^ (aPut x l).n := by
  show 12 * x.r + l < 12 ^ (x.n + 1)
  rw [Nat.pow_succ]; omega
theorem okAS.move {P : PR} {a : AS} (h : okAS P a) {t : Nat} (ht : t < 4) {y : TH} (hs : (a.th t).st = 0 ∨ (a.th t).st = 3) (hp : y.pl = (a.th t).pl) (hk : y.kp ≤ (a.th t).kp) (hi : y.fi ≤ 1) (hpp : y.fp ≤ 1) (hf : y.fs ≤ 1) (hn : y.n ≤ (a.th t).n + 1) (hr : y.r < 12 ^ y.n) : okAS P (sT a t (aRun P t y)) :=
  h.setT ht (by omega) ((h.th t ht).run ((h.th t ht).lt (by omega)) (by omega) hp hk hi hpp hf hn hr) (run_st _ _ _) (by show _ ≤ y.pl + 1; omega)
theorem okAS.move0 {P : PR} {a : AS} (h : okAS P a) {t : Nat} (ht : t < 4) (hs : (a.th t).st = 0 ∨ (a.th t).st = 3) : okAS P (aGo P a t) :=
  have h1 := h.th t ht
  h.move ht hs rfl (Nat.le_refl _) h1.fi h1.fp h1.fs (by omega) h1.r
theorem okAS.ntf {P : PR} {a : AS} (h : okAS P a) {o v : Nat} (ho : o < 2) (hv : v ∈ (a.mo o).q) : okAS P (aNtf a o v) := by
  obtain ⟨hv4, hvs, hvo⟩ := h.q o ho v hv
  have h1 := h.th v hv4
  have hn := h1.n
  rw [if_neg (by omega)] at hn
  have hr := put_r (l := 2) h1.r (by decide)
  refine h.out ho hv ⟨by show 2 ≤ 4; decide, h1.fi, h1.fp, h1.fs, h1.pl, fun _ => h1.lt (by omega), by show (a.th v).n + 1 ≤ (a.th v).pl + 1; omega, hr, h1.kp, fun _ => h1.kp1 (Or.inl hvs)⟩ (by show ¬ 2 = 1; decide) (Nat.le_refl _)
theorem headD_mem {l : List Nat} (h : 0 < l.length) : l.headD 0 ∈ l := by
  match l, h with
  | x :: l, _ => simp
theorem lastD_mem {l : List Nat} (h : 0 < l.length) : l.getLastD 0 ∈ l := by
  match l, h with
  | x :: l, _ => rw [List.getLastD_cons]; exact List.getLastD_mem_cons
theorem ntf_q {a : AS} {o : Nat} (h : 0 < (a.mo o).q.length) : ((aNtf a o ((a.mo o).q.headD 0)).mo o).q = (a.mo o).q.tail := by
  show (if o = o then (MO.mk ((a.mo o).ow) ((a.mo o).de) ((a.mo o).q.erase ((a.mo o).q.headD 0))) else a.mo o).q = _
  rw [if_pos rfl]
  show (a.mo o).q.erase ((a.mo o).q.headD 0) = _
  generalize (a.mo o).q = l at *
  match l, h with
  | x :: l, _ => simp
theorem okAS.ntA {P : PR} {o : Nat} (ho : o < 2) : ∀ (k : Nat) (a : AS), okAS P a → (a.mo o).q.length = k → okAS P (aNtA o k a)
  | 0, a, h, _ => h
  | k + 1, a, h, hk => by
    refine okAS.ntA ho k _ (h.ntf ho (headD_mem (by omega))) ?_
    rw [ntf_q (by omega), List.length_tail]; omega
theorem ntf_keep {a : AS} {o v t : Nat} (h : ¬ t = v) : (aNtf a o v).th t = a.th t := by
  show (if t = v then _ else a.th t) = _
  rw [if_neg h]
theorem ntA_keep {P : PR} {o t : Nat} (ho : o < 2) : ∀ (k : Nat) (a : AS), okAS P a → (a.mo o).q.length = k → ¬ (a.th t).st = 1 → (aNtA o k a).th t = a.th t
  | 0, a, _, _, _ => rfl
  | k + 1, a, h, hk, ht => by
    have h0 := headD_mem (l := (a.mo o).q) (by omega)
    have h1 : (aNtf a o ((a.mo o).q.headD 0)).th t = a.th t := ntf_keep (fun e => ht (by rw [e]; exact (h.q o ho _ h0).2.1))
    rw [aNtA, ntA_keep ho k _ (h.ntf ho h0) (by rw [ntf_q (by omega), List.length_tail]; omega) (by rw [h1]; exact ht), h1]
theorem okAS.into {P : PR} {a : AS} (h : okAS P a) {o t : Nat} (ho : o < 2) (ht : t < 4) (hs : (a.th t).st = 0) (hw : (a.mo o).ow = t + 1) (hopd : P.opd t (a.th t).pl = o) (hact : P.act t (a.th t).pl = 2 ∨ P.act t (a.th t).pl = 3) : okAS P (sM (sT a t (TH.mk 1 ((a.th t).pl) ((a.mo o).de) ((a.th t).fi) ((a.th t).fp) ((a.th t).fs) ((a.th t).n) ((a.th t).r))) o (MO.mk 0 0 ((a.mo o).q ++ [t]))) := by
  have hd := h.de o t ho ht hw
  have h1 := h.th t ht
  have hnq : t ∉ (a.mo o).q := fun hq => by have := (h.q o ho t hq).2.1; omega
  refine ⟨fun u hu => ?_, fun u hu => ?_, fun m hm => ?_, fun m hm u hu => ?_, fun m hm => ?_, fun m hm => ?_, fun m u hm hu => ?_⟩
  · show okTH P u (if u = t then (TH.mk 1 ((a.th t).pl) ((a.mo o).de) ((a.th t).fi) ((a.th t).fp) ((a.th t).fs) ((a.th t).n) ((a.th t).r)) else a.th u)
    split
    · rename_i e; subst e
      have hn := h1.n
      rw [if_neg (by omega)] at hn
      exact ⟨by show 1 ≤ 4; decide, h1.fi, h1.fp, h1.fs, h1.pl, fun _ => h1.lt (by omega), by show (a.th u).n ≤ (a.th u).pl + 0; omega, h1.r, hd.2, fun _ => ⟨hd.1, hact⟩⟩
    · exact h.th u hu
  · show (if u = t then (TH.mk 1 ((a.th t).pl) ((a.mo o).de) ((a.th t).fi) ((a.th t).fp) ((a.th t).fs) ((a.th t).n) ((a.th t).r)) else a.th u).st = 1 → u ∈ (if P.opd u (if u = t then (TH.mk 1 ((a.th t).pl) ((a.mo o).de) ((a.th t).fi) ((a.th t).fp) ((a.th t).fs) ((a.th t).n) ((a.th t).r)) else a.th u).pl = o then (MO.mk 0 0 ((a.mo o).q ++ [t])) else a.mo (P.opd u (if u = t then (TH.mk 1 ((a.th t).pl) ((a.mo o).de) ((a.th t).fi) ((a.th t).fp) ((a.th t).fs) ((a.th t).n) ((a.th t).r)) else a.th u).pl)).q
    split
    · rename_i e; subst e
      intro _
      show u ∈ (if P.opd u (a.th u).pl = o then (MO.mk 0 0 ((a.mo o).q ++ [u])) else a.mo (P.opd u (a.th u).pl)).q
      rw [if_pos hopd]
      show u ∈ (a.mo o).q ++ [u]
      simp
    · intro hq
      have h2 := h.wt u hu hq
      split
      · rename_i e2
        rw [e2] at h2
        exact List.mem_append_left _ h2
      · exact h2
  · show (if m = o then (MO.mk 0 0 ((a.mo o).q ++ [t])) else a.mo m).q.Nodup
    split
    · show ((a.mo o).q ++ [t]).Nodup
      rw [List.nodup_append]
      refine ⟨h.nd o ho, by simp, fun x hx y hy => ?_⟩
      rw [List.mem_singleton] at hy
      subst hy
      intro he
      subst he
      exact hnq hx
    · exact h.nd m hm
  · have hu : u ∈ (if m = o then (MO.mk 0 0 ((a.mo o).q ++ [t])) else a.mo m).q := hu
    show u < 4 ∧ (if u = t then (TH.mk 1 ((a.th t).pl) ((a.mo o).de) ((a.th t).fi) ((a.th t).fp) ((a.th t).fs) ((a.th t).n) ((a.th t).r)) else a.th u).st = 1 ∧ P.opd u (if u = t then (TH.mk 1 ((a.th t).pl) ((a.mo o).de) ((a.th t).fi) ((a.th t).fp) ((a.th t).fs) ((a.th t).n) ((a.th t).r)) else a.th u).pl = m
    split at hu
    · rename_i e
      have hu : u ∈ (a.mo o).q ++ [t] := hu
      split
      · rename_i e2; subst e2; exact ⟨ht, rfl, by rw [e]; exact hopd⟩
      · rename_i e2
        rcases List.mem_append.1 hu with h3 | h3
        · rw [e]; exact h.q o ho u h3
        · exact absurd (List.mem_singleton.1 h3) e2
    · have h3 := h.q m hm u hu
      rw [if_neg (fun e2 => by rw [e2] at h3; omega)]
      exact h3
  · show (if m = o then (MO.mk 0 0 ((a.mo o).q ++ [t])) else a.mo m).ow ≤ 4
    split
    · exact Nat.zero_le _
    · exact h.ow m hm
  · show (if m = o then (MO.mk 0 0 ((a.mo o).q ++ [t])) else a.mo m).ow = 0 → (if m = o then (MO.mk 0 0 ((a.mo o).q ++ [t])) else a.mo m).de = 0
    split
    · exact fun _ => rfl
    · exact h.fr m hm
  · show (if m = o then (MO.mk 0 0 ((a.mo o).q ++ [t])) else a.mo m).ow = u + 1 → 1 ≤ (if m = o then (MO.mk 0 0 ((a.mo o).q ++ [t])) else a.mo m).de ∧ (if m = o then (MO.mk 0 0 ((a.mo o).q ++ [t])) else a.mo m).de ≤ (if u = t then (TH.mk 1 ((a.th t).pl) ((a.mo o).de) ((a.th t).fi) ((a.th t).fp) ((a.th t).fs) ((a.th t).n) ((a.th t).r)) else a.th u).pl
    split
    · intro q; exact absurd q (by show ¬ 0 = u + 1; omega)
    · intro q
      have h3 := h.de m u hm hu q
      split
      · rename_i e; subst e; exact h3
      · exact h3
theorem okAS.beg {P : PR} : okAS P (aBeg P) := by
  refine ⟨fun t ht => ?_, fun t ht hs => ?_, fun m hm => ?_, fun m hm v hv => ?_, fun m hm => ?_, fun m hm _ => ?_, fun m t hm ht hs => ?_⟩
  · refine ⟨?_, Nat.zero_le _, Nat.zero_le _, Nat.zero_le _, Nat.zero_le _, fun h => ?_, Nat.zero_le _, by show 0 < 12 ^ 0; decide, Nat.zero_le _, fun h => ?_⟩
    · show (if P.len t = 0 then 4 else 0) ≤ 4; split <;> omega
    · have h : ¬ (if P.len t = 0 then 4 else 0) = 4 := h
      split at h
      · exact absurd rfl h
      · show 0 < P.len t; omega
    · have h : (if P.len t = 0 then 4 else 0) = 1 ∨ (if P.len t = 0 then 4 else 0) = 2 := h
      split at h <;> omega
  · have h : (if P.len t = 0 then 4 else 0) = 1 := hs
    split at h <;> omega
  · exact List.nodup_nil
  · exact absurd hv (by show ¬ v ∈ []; simp)
  · exact Nat.zero_le _
  · rfl
  · have : 0 = t + 1 := hs
    omega
theorem okAS.tak {P : PR} (hP : okPR P) {a : AS} (h : okAS P a) {t w : Nat} (ht : t < 4) (hm : ¬ aMay P a t w = 0) : okAS P (aTak P a t w) := by
  have h1 := h.th t ht
  unfold aTak
  by_cases s0 : (a.th t).st = 0
  · rw [if_pos s0]
    have hl := h1.lt (by omega)
    by_cases ha : P.act t (a.th t).pl < 6
    · rw [if_pos ha]
      have ho := hP.opm t _ ht hl ha
      unfold aMay at hm
      rw [if_pos s0] at hm
      unfold aMon
      generalize ho' : P.opd t (a.th t).pl = o at *
      generalize hc' : P.act t (a.th t).pl = c at *
      by_cases c0 : c = 0
      · rw [if_pos c0]
        rw [if_neg (by omega)] at hm
        have hw0 : w = 0 := by
          by_cases hw : w = 0
          · exact hw
          · rw [if_neg hw] at hm; exact absurd rfl hm
        rw [if_pos hw0, if_pos c0] at hm
        have hd : (a.mo o).de ≤ (a.th t).pl := by
          by_cases hf : (a.mo o).ow = 0
          · rw [h.fr o ho hf]; exact Nat.zero_le _
          · rw [if_neg hf] at hm
            by_cases hf2 : (a.mo o).ow = t + 1
            · exact (h.de o t ho ht hf2).2
            · rw [if_neg hf2] at hm; exact absurd rfl hm
        have h2 : okAS P (sT a t (aRun P t (a.th t))) := h.move0 ht (Or.inl s0)
        exact h2.setO (m := o) (w := t + 1) (d := (a.mo o).de + 1) (by omega) (by omega) (fun u hu he => by
          have : u = t := by omega
          subst this
          rw [sT_th]
          show 1 ≤ _ ∧ (a.mo o).de + 1 ≤ (a.th u).pl + 1
          omega)
      · rw [if_neg c0]
        by_cases hw : (a.mo o).ow = t + 1
        · rw [if_pos hw]
          have hde := h.de o t ho ht hw
          by_cases c1 : c = 1
          · rw [if_pos c1]
            have h2 : okAS P (sT a t (aRun P t (a.th t))) := h.move0 ht (Or.inl s0)
            split
            · exact h2.setO (m := o) (w := 0) (d := 0) (by omega) (by omega) (fun u hu he => by omega)
            · have h3 := h2.setO (m := o) (w := t + 1) (d := (a.mo o).de - 1) (by omega) (by omega) (fun u hu he => by
                have : u = t := by omega
                subst this
                rw [sT_th]
                show 1 ≤ _ ∧ (a.mo o).de - 1 ≤ (a.th u).pl + 1
                omega)
              have h4 : (sM (sT a t (aRun P t (a.th t))) o (MO.mk (t + 1) ((a.mo o).de - 1) (((sT a t (aRun P t (a.th t))).mo o).q))) = aGo P (sM a o (MO.mk ((a.mo o).ow) ((a.mo o).de - 1) ((a.mo o).q))) t := by
                unfold aGo
                rw [sT_sM]
                congr 1
                show (MO.mk (t + 1) ((a.mo o).de - 1) ((a.mo o).q)) = _
                rw [← hw]
              rw [← h4]; exact h3
          · rw [if_neg c1]
            by_cases c4 : c = 4
            · rw [if_pos c4]
              rw [if_pos c4, if_pos hw] at hm
              by_cases hw0 : w = 0
              · rw [if_pos hw0]; exact h.move0 ht (Or.inl s0)
              · rw [if_neg hw0]
                have hq : 0 < (a.mo o).q.length := by
                  by_cases hq : (a.mo o).q.length = 0
                  · rw [if_pos hq, if_neg hw0] at hm; exact absurd rfl hm
                  · omega
                have key : ∀ v, v ∈ (a.mo o).q → okAS P (aGo P (aNtf a o v) t) := fun v hv => by
                  have hvt : ¬ t = v := fun e => by have := (h.q o ho v hv).2.1; rw [← e] at this; omega
                  exact (h.ntf ho hv).move0 ht (by rw [ntf_keep hvt]; exact Or.inl s0)
                by_cases hw1 : w = 1
                · rw [if_pos hw1]; exact key _ (headD_mem hq)
                · rw [if_neg hw1]; exact key _ (lastD_mem hq)
            · rw [if_neg c4]
              by_cases c5 : c = 5
              · rw [if_pos c5]
                exact (okAS.ntA ho _ a h rfl).move0 ht (by rw [ntA_keep ho _ a h rfl (by omega)]; exact Or.inl s0)
              · rw [if_neg c5]
                by_cases hi : (a.th t).fi = 0
                · rw [if_pos hi]; exact h.into ho ht s0 hw ho' (by omega)
                · rw [if_neg hi]
                  exact h.move ht (Or.inl s0) rfl (Nat.le_refl _) (by show 0 ≤ 1; decide) h1.fp h1.fs (Nat.le_refl _) (put_r (x := (TH.mk ((a.th t).st) ((a.th t).pl) ((a.th t).kp) 0 ((a.th t).fp) ((a.th t).fs) ((a.th t).n) ((a.th t).r))) h1.r (by decide))
        · rw [if_neg hw]
          exact h.move ht (Or.inl s0) rfl (Nat.le_refl _) h1.fi h1.fp h1.fs (Nat.le_refl _) (put_r h1.r (by decide))
    · rw [if_neg ha]
      unfold aOth
      have hpt : ∀ (x : TH) (l : Nat), x.pl = (a.th t).pl → x.kp = (a.th t).kp → x.fi ≤ 1 → x.fp ≤ 1 → x.fs = (a.th t).fs → x.n = (a.th t).n → x.r = (a.th t).r → l < 12 → okAS P (sT a t (aRun P t (aPut x l))) := fun x l q1 q2 q3 q4 q5 q6 q7 q8 =>
        h.move ht (Or.inl s0) q1 (by show x.kp ≤ _; omega) q3 q4 (by show x.fs ≤ 1; have := h1.fs; omega) (by show x.n + 1 ≤ _; omega) (put_r (by rw [q7, q6]; exact h1.r) q8)
      have hrt : ∀ (x : TH), x.pl = (a.th t).pl → x.kp = (a.th t).kp → x.fi ≤ 1 → x.fp ≤ 1 → x.fs = (a.th t).fs → x.n = (a.th t).n → x.r = (a.th t).r → okAS P (sT a t (aRun P t x)) := fun x q1 q2 q3 q4 q5 q6 q7 =>
        h.move ht (Or.inl s0) q1 (by omega) q3 q4 (by have := h1.fs; omega) (by omega) (by rw [q7, q6]; exact h1.r)
      generalize ho' : P.opd t (a.th t).pl = u at *
      have hu := hP.opt t _ ht hl
      generalize hc' : P.act t (a.th t).pl = c at *
      rw [ho'] at hu
      by_cases c6 : c = 6
      · rw [if_pos c6]
        have hu := hu (by omega)
        have h2 : okAS P (aInt a u) ∧ (aInt a u).th t = (if t = u then (TH.mk ((a.th t).st) ((a.th t).pl) ((a.th t).kp) 1 ((a.th t).fp) ((a.th t).fs) ((a.th t).n) ((a.th t).r)) else a.th t) := by
          unfold aInt
          split
          · rename_i e
            rw [if_neg (fun e2 => by rw [← e2] at e; omega)]
            exact ⟨h, rfl⟩
          · have hx := h.th u hu
            constructor
            · by_cases hs1 : (a.th u).st = 1
              · refine ⟨fun v hv => ?_, fun v hv => ?_, h.nd, fun m hm v hv => ?_, h.ow, h.fr, fun m v hm hv he => ?_⟩
                · show okTH P v (if v = u then (TH.mk ((a.th u).st) ((a.th u).pl) ((a.th u).kp) 1 ((a.th u).fp) ((a.th u).fs) ((a.th u).n) ((a.th u).r)) else a.th v)
                  split
                  · rename_i e2; subst e2
                    exact ⟨hx.st, by show 1 ≤ 1; decide, hx.fp, hx.fs, hx.pl, hx.lt, hx.n, hx.r, hx.kp, hx.kp1⟩
                  · exact h.th v hv
                · show (if v = u then (TH.mk ((a.th u).st) ((a.th u).pl) ((a.th u).kp) 1 ((a.th u).fp) ((a.th u).fs) ((a.th u).n) ((a.th u).r)) else a.th v).st = 1 → v ∈ (a.mo (P.opd v (if v = u then (TH.mk ((a.th u).st) ((a.th u).pl) ((a.th u).kp) 1 ((a.th u).fp) ((a.th u).fs) ((a.th u).n) ((a.th u).r)) else a.th v).pl)).q
                  split
                  · rename_i e2; subst e2; exact h.wt v hv
                  · exact h.wt v hv
                · show v < 4 ∧ (if v = u then (TH.mk ((a.th u).st) ((a.th u).pl) ((a.th u).kp) 1 ((a.th u).fp) ((a.th u).fs) ((a.th u).n) ((a.th u).r)) else a.th v).st = 1 ∧ P.opd v (if v = u then (TH.mk ((a.th u).st) ((a.th u).pl) ((a.th u).kp) 1 ((a.th u).fp) ((a.th u).fs) ((a.th u).n) ((a.th u).r)) else a.th v).pl = m
                  split
                  · rename_i e2; subst e2; exact h.q m hm v hv
                  · exact h.q m hm v hv
                · show _ ∧ _ ≤ (if v = u then (TH.mk ((a.th u).st) ((a.th u).pl) ((a.th u).kp) 1 ((a.th u).fp) ((a.th u).fs) ((a.th u).n) ((a.th u).r)) else a.th v).pl
                  split
                  · rename_i e2; subst e2; exact h.de m v hm hv he
                  · exact h.de m v hm hv he
              · exact h.setT hu hs1 ⟨hx.st, by show 1 ≤ 1; decide, hx.fp, hx.fs, hx.pl, hx.lt, hx.n, hx.r, hx.kp, hx.kp1⟩ hs1 (Nat.le_refl _)
            · show (if t = u then (TH.mk ((a.th u).st) ((a.th u).pl) ((a.th u).kp) 1 ((a.th u).fp) ((a.th u).fs) ((a.th u).n) ((a.th u).r)) else a.th t) = _
              split
              · rename_i e2; subst e2; rfl
              · rfl
        refine h2.1.move0 ht (Or.inl ?_)
        rw [h2.2]
        split
        · exact s0
        · exact s0
      rw [if_neg c6]
      by_cases c7 : c = 7
      · rw [if_pos c7]
        split
        · split
          · have hn := h1.n
            rw [if_neg (by omega)] at hn
            exact h.setT ht (by omega) ⟨by show 3 ≤ 4; decide, h1.fi, h1.fp, h1.fs, h1.pl, fun _ => hl, by show (a.th t).n ≤ _ + 0; omega, h1.r, h1.kp, fun q => by rcases q with q | q <;> exact absurd q (by show ¬ 3 = _; decide)⟩ (by show ¬ 3 = 1; decide) (Nat.le_refl _)
          · exact hrt _ rfl rfl h1.fi (by show 0 ≤ 1; decide) rfl rfl rfl
        · exact hrt _ rfl rfl h1.fi (by show 0 ≤ 1; decide) rfl rfl rfl
      rw [if_neg c7]
      by_cases c8 : c = 8
      · rw [if_pos c8]
        have hu := hu (by omega)
        have h2 : okAS P (aUnp P a u) ∧ ((aUnp P a u).th t).st = 0 := by
          unfold aUnp
          have hx := h.th u hu
          split
          · rename_i e
            refine ⟨h.move0 hu (Or.inr e), ?_⟩
            rw [aGo, sT_ne _ _ (fun e2 => by rw [← e2] at e; omega)]
            exact s0
          · split
            · exact ⟨h, s0⟩
            · constructor
              · by_cases hs1 : (a.th u).st = 1
                · refine ⟨fun v hv => ?_, fun v hv => ?_, h.nd, fun m hm v hv => ?_, h.ow, h.fr, fun m v hm hv he => ?_⟩
                  · show okTH P v (if v = u then (TH.mk ((a.th u).st) ((a.th u).pl) ((a.th u).kp) ((a.th u).fi) 1 ((a.th u).fs) ((a.th u).n) ((a.th u).r)) else a.th v)
                    split
                    · rename_i e2; subst e2
                      exact ⟨hx.st, hx.fi, by show 1 ≤ 1; decide, hx.fs, hx.pl, hx.lt, hx.n, hx.r, hx.kp, hx.kp1⟩
                    · exact h.th v hv
                  · show (if v = u then (TH.mk ((a.th u).st) ((a.th u).pl) ((a.th u).kp) ((a.th u).fi) 1 ((a.th u).fs) ((a.th u).n) ((a.th u).r)) else a.th v).st = 1 → v ∈ (a.mo (P.opd v (if v = u then (TH.mk ((a.th u).st) ((a.th u).pl) ((a.th u).kp) ((a.th u).fi) 1 ((a.th u).fs) ((a.th u).n) ((a.th u).r)) else a.th v).pl)).q
                    split
                    · rename_i e2; subst e2; exact h.wt v hv
                    · exact h.wt v hv
                  · show v < 4 ∧ (if v = u then (TH.mk ((a.th u).st) ((a.th u).pl) ((a.th u).kp) ((a.th u).fi) 1 ((a.th u).fs) ((a.th u).n) ((a.th u).r)) else a.th v).st = 1 ∧ P.opd v (if v = u then (TH.mk ((a.th u).st) ((a.th u).pl) ((a.th u).kp) ((a.th u).fi) 1 ((a.th u).fs) ((a.th u).n) ((a.th u).r)) else a.th v).pl = m
                    split
                    · rename_i e2; subst e2; exact h.q m hm v hv
                    · exact h.q m hm v hv
                  · show _ ∧ _ ≤ (if v = u then (TH.mk ((a.th u).st) ((a.th u).pl) ((a.th u).kp) ((a.th u).fi) 1 ((a.th u).fs) ((a.th u).n) ((a.th u).r)) else a.th v).pl
                    split
                    · rename_i e2; subst e2; exact h.de m v hm hv he
                    · exact h.de m v hm hv he
                · exact h.setT hu hs1 ⟨hx.st, hx.fi, by show 1 ≤ 1; decide, hx.fs, hx.pl, hx.lt, hx.n, hx.r, hx.kp, hx.kp1⟩ hs1 (Nat.le_refl _)
              · show (if t = u then (TH.mk ((a.th u).st) ((a.th u).pl) ((a.th u).kp) ((a.th u).fi) 1 ((a.th u).fs) ((a.th u).n) ((a.th u).r)) else a.th t).st = _
                split
                · rename_i e2; subst e2; exact s0
                · exact s0
        exact h2.1.move0 ht (Or.inl h2.2)
      rw [if_neg c8]
      by_cases c11 : c = 11
      · rw [if_pos c11]
        have hu := hu (by omega)
        exact hpt _ _ rfl rfl h1.fi h1.fp rfl rfl rfl (by omega)
      rw [if_neg c11]
      by_cases c12 : c = 12
      · rw [if_pos c12]
        exact hpt _ _ rfl rfl (by show 0 ≤ 1; decide) h1.fp rfl rfl rfl (by split <;> omega)
      rw [if_neg c12]
      split
      · exact hrt _ rfl rfl h1.fi h1.fp rfl rfl rfl
      · exact hpt _ _ rfl rfl (by show 0 ≤ 1; decide) h1.fp rfl rfl rfl (by omega)
  rw [if_neg s0]
  by_cases s1 : (a.th t).st = 1
  · rw [if_pos s1]
    have ho := h.opm hP ht (Or.inl s1)
    have hq := h.wt t ht s1
    have hn := h1.n
    rw [if_neg (by omega)] at hn
    have hl := h1.lt (by omega)
    have hk := h1.kp1 (Or.inl s1)
    split
    · exact h.out ho hq (x := (TH.mk 2 ((aPut (TH.mk ((a.th t).st) ((a.th t).pl) ((a.th t).kp) 0 ((a.th t).fp) ((a.th t).fs) ((a.th t).n) ((a.th t).r)) 1).pl) ((aPut (TH.mk ((a.th t).st) ((a.th t).pl) ((a.th t).kp) 0 ((a.th t).fp) ((a.th t).fs) ((a.th t).n) ((a.th t).r)) 1).kp) ((aPut (TH.mk ((a.th t).st) ((a.th t).pl) ((a.th t).kp) 0 ((a.th t).fp) ((a.th t).fs) ((a.th t).n) ((a.th t).r)) 1).fi) ((aPut (TH.mk ((a.th t).st) ((a.th t).pl) ((a.th t).kp) 0 ((a.th t).fp) ((a.th t).fs) ((a.th t).n) ((a.th t).r)) 1).fp) ((aPut (TH.mk ((a.th t).st) ((a.th t).pl) ((a.th t).kp) 0 ((a.th t).fp) ((a.th t).fs) ((a.th t).n) ((a.th t).r)) 1).fs) ((aPut (TH.mk ((a.th t).st) ((a.th t).pl) ((a.th t).kp) 0 ((a.th t).fp) ((a.th t).fs) ((a.th t).n) ((a.th t).r)) 1).n) ((aPut (TH.mk ((a.th t).st) ((a.th t).pl) ((a.th t).kp) 0 ((a.th t).fp) ((a.th t).fs) ((a.th t).n) ((a.th t).r)) 1).r))) ⟨by show 2 ≤ 4; decide, by show 0 ≤ 1; decide, h1.fp, h1.fs, h1.pl, fun _ => hl, by show (a.th t).n + 1 ≤ (a.th t).pl + 1; omega, put_r (x := (TH.mk ((a.th t).st) ((a.th t).pl) ((a.th t).kp) 0 ((a.th t).fp) ((a.th t).fs) ((a.th t).n) ((a.th t).r))) h1.r (by decide), h1.kp, fun _ => hk⟩ (by show ¬ 2 = 1; decide) (Nat.le_refl _)
    · split
      · exact h.out ho hq (x := (TH.mk 2 ((a.th t).pl) ((a.th t).kp) ((a.th t).fi) ((a.th t).fp) 1 ((a.th t).n) ((a.th t).r))) ⟨by show 2 ≤ 4; decide, h1.fi, h1.fp, by show 1 ≤ 1; decide, h1.pl, fun _ => hl, by show (a.th t).n ≤ (a.th t).pl + 1; omega, h1.r, h1.kp, fun _ => hk⟩ (by show ¬ 2 = 1; decide) (Nat.le_refl _)
      · exact h.out ho hq (x := (TH.mk 2 ((aPut (a.th t) 3).pl) ((aPut (a.th t) 3).kp) ((aPut (a.th t) 3).fi) ((aPut (a.th t) 3).fp) ((aPut (a.th t) 3).fs) ((aPut (a.th t) 3).n) ((aPut (a.th t) 3).r))) ⟨by show 2 ≤ 4; decide, h1.fi, h1.fp, h1.fs, h1.pl, fun _ => hl, by show (a.th t).n + 1 ≤ (a.th t).pl + 1; omega, put_r h1.r (by decide), h1.kp, fun _ => hk⟩ (by show ¬ 2 = 1; decide) (Nat.le_refl _)
  rw [if_neg s1]
  by_cases s2 : (a.th t).st = 2
  · rw [if_pos s2]
    have ho := h.opm hP ht (Or.inr s2)
    have hl := h1.lt (by omega)
    have hk := h1.kp1 (Or.inr s2)
    have h2 : okAS P (sT a t (aRun P t (TH.mk ((a.th t).st) ((a.th t).pl) 0 ((a.th t).fi) ((a.th t).fp) ((a.th t).fs) ((a.th t).n) ((a.th t).r)))) := h.setT ht (by omega) (h1.run2 (y := (TH.mk ((a.th t).st) ((a.th t).pl) 0 ((a.th t).fi) ((a.th t).fp) ((a.th t).fs) ((a.th t).n) ((a.th t).r))) hl rfl (Nat.zero_le _) h1.fi h1.fp h1.fs (Nat.le_refl _) h1.r) (run_st _ _ _) (by show _ ≤ (a.th t).pl + 1; omega)
    exact h2.setO (m := P.opd t (a.th t).pl) (w := t + 1) (d := (a.th t).kp) (by omega) (by omega) (fun u hu he => by
      have : u = t := by omega
      subst this
      rw [sT_th]
      have := h1.kp
      show 1 ≤ _ ∧ (a.th u).kp ≤ (a.th u).pl + 1
      omega)
  rw [if_neg s2]
  by_cases s3 : (a.th t).st = 3
  · rw [if_pos s3]
    split
    · exact h.move ht (Or.inr s3) rfl (Nat.le_refl _) h1.fi h1.fp (by show 1 ≤ 1; decide) (by show (a.th t).n ≤ _; omega) h1.r
    · exact h.move0 ht (Or.inr s3)
  rw [if_neg s3]
  exact h
