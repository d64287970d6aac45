abbrev PR : Type := (Nat → Nat) × (Nat → Nat → Nat) × (Nat → Nat → Nat) × Nat
abbrev PR.len (x : PR) : Nat → Nat := x.1
abbrev PR.act (x : PR) : Nat → Nat → Nat := x.2.1
abbrev PR.opd (x : PR) : Nat → Nat → Nat := x.2.2.1
abbrev PR.loose (x : PR) : Nat := x.2.2.2
abbrev PR.mk (a0 : Nat → Nat) (a1 : Nat → Nat → Nat) (a2 : Nat → Nat → Nat) (a3 : Nat) : PR := (a0, a1, a2, a3)
theorem PR.ext {x y : PR} (h0 : x.len = y.len) (h1 : x.act = y.act) (h2 : x.opd = y.opd) (h3 : x.loose = y.loose) : x = y := Prod.ext h0 (Prod.ext h1 (Prod.ext h2 h3))
abbrev TH : Type := Nat × Nat × Nat × Nat × Nat × Nat × Nat × Nat
abbrev TH.st (x : TH) : Nat := x.1
abbrev TH.pl (x : TH) : Nat := x.2.1
abbrev TH.kp (x : TH) : Nat := x.2.2.1
abbrev TH.fi (x : TH) : Nat := x.2.2.2.1
abbrev TH.fp (x : TH) : Nat := x.2.2.2.2.1
abbrev TH.fs (x : TH) : Nat := x.2.2.2.2.2.1
abbrev TH.n (x : TH) : Nat := x.2.2.2.2.2.2.1
abbrev TH.r (x : TH) : Nat := x.2.2.2.2.2.2.2
abbrev TH.mk (a0 : Nat) (a1 : Nat) (a2 : Nat) (a3 : Nat) (a4 : Nat) (a5 : Nat) (a6 : Nat) (a7 : Nat) : TH := (a0, a1, a2, a3, a4, a5, a6, a7)
theorem TH.ext {x y : TH} (h0 : x.st = y.st) (h1 : x.pl = y.pl) (h2 : x.kp = y.kp) (h3 : x.fi = y.fi) (h4 : x.fp = y.fp) (h5 : x.fs = y.fs) (h6 : x.n = y.n) (h7 : x.r = y.r) : x = y := Prod.ext h0 (Prod.ext h1 (Prod.ext h2 (Prod.ext h3 (Prod.ext h4 (Prod.ext h5 (Prod.ext h6 h7))))))
abbrev MO : Type := Nat × Nat × (List Nat)
abbrev MO.ow (x : MO) : Nat := x.1
abbrev MO.de (x : MO) : Nat := x.2.1
abbrev MO.q (x : MO) : List Nat := x.2.2
abbrev MO.mk (a0 : Nat) (a1 : Nat) (a2 : List Nat) : MO := (a0, a1, a2)
theorem MO.ext {x y : MO} (h0 : x.ow = y.ow) (h1 : x.de = y.de) (h2 : x.q = y.q) : x = y := Prod.ext h0 (Prod.ext h1 h2)
abbrev AS : Type := (Nat → TH) × (Nat → MO)
abbrev AS.th (x : AS) : Nat → TH := x.1
abbrev AS.mo (x : AS) : Nat → MO := x.2
abbrev AS.mk (a0 : Nat → TH) (a1 : Nat → MO) : AS := (a0, a1)
theorem AS.ext {x y : AS} (h0 : x.th = y.th) (h1 : x.mo = y.mo) : x = y := Prod.ext h0 h1
def sT (a : AS) (t : Nat) (x : TH) : AS := ⟨fun t' => if t' = t then x else a.th t', a.mo⟩
def sM (a : AS) (m : Nat) (y : MO) : AS := ⟨a.th, fun m' => if m' = m then y else a.mo m'⟩
def aRun (P : PR) (t : Nat) (x : TH) : TH := (TH.mk (if P.len t ≤ x.pl + 1 then 4 else 0) (x.pl + 1) x.kp x.fi x.fp x.fs x.n x.r)
def aPut (x : TH) (l : Nat) : TH := (TH.mk x.st x.pl x.kp x.fi x.fp x.fs (x.n + 1) (12 * x.r + l))
def aGo (P : PR) (a : AS) (t : Nat) : AS := sT a t (aRun P t (a.th t))
def aNtf (a : AS) (o v : Nat) : AS := sT (sM a o (MO.mk ((a.mo o).ow) ((a.mo o).de) ((a.mo o).q.erase v))) v (TH.mk 2 ((aPut (a.th v) 2).pl) ((aPut (a.th v) 2).kp) ((aPut (a.th v) 2).fi) ((aPut (a.th v) 2).fp) ((aPut (a.th v) 2).fs) ((aPut (a.th v) 2).n) ((aPut (a.th v) 2).r))
def aNtA (o : Nat) : Nat → AS → AS
  | 0, a => a
  | k + 1, a => aNtA o k (aNtf a o ((a.mo o).q.headD 0))
def aMay (P : PR) (a : AS) (t w : Nat) : Nat :=
  if (a.th t).st = 0 then
    (if P.act t (a.th t).pl = 4 then
      (if (a.mo (P.opd t (a.th t).pl)).ow = t + 1 then
        (if (a.mo (P.opd t (a.th t).pl)).q.length = 0 then (if w = 0 then 1 else 0) else if w = 1 then 1 else if w = 2 then 1 else 0)
      else if w = 0 then 1 else 0)
    else if w = 0 then
      (if P.act t (a.th t).pl = 0 then (if (a.mo (P.opd t (a.th t).pl)).ow = 0 then 1 else if (a.mo (P.opd t (a.th t).pl)).ow = t + 1 then 1 else 0)
      else if P.act t (a.th t).pl = 9 then (if (a.th t).fi = 0 then (if (a.th (P.opd t (a.th t).pl)).st = 4 then 1 else 0) else 1)
      else 1)
    else 0)
  else if (a.th t).st = 1 then
    (if w = 1 then (a.th t).fi else if w = 2 then (if P.loose = 0 then 0 else if (a.th t).fs = 0 then 1 else 0) else if w = 3 then (if P.act t (a.th t).pl = 3 then 1 else 0) else 0)
  else if (a.th t).st = 2 then (if w = 0 then (if (a.mo (P.opd t (a.th t).pl)).ow = 0 then 1 else 0) else 0)
  else if (a.th t).st = 3 then (if w = 1 then (a.th t).fi else if w = 3 then (if P.loose = 0 then 0 else if (a.th t).fs = 0 then 1 else 0) else 0)
  else 0
def aMon (P : PR) (a : AS) (t o c w : Nat) : AS :=
  if c = 0 then aGo P (sM a o (MO.mk (t + 1) ((a.mo o).de + 1) ((a.mo o).q))) t
  else if (a.mo o).ow = t + 1 then
    (if c = 1 then aGo P (sM a o (if (a.mo o).de - 1 = 0 then (MO.mk 0 0 ((a.mo o).q)) else (MO.mk ((a.mo o).ow) ((a.mo o).de - 1) ((a.mo o).q)))) t
    else if c = 4 then (if w = 0 then aGo P a t else if w = 1 then aGo P (aNtf a o ((a.mo o).q.headD 0)) t else aGo P (aNtf a o ((a.mo o).q.getLastD 0)) t)
    else if c = 5 then aGo P (aNtA o (a.mo o).q.length a) t
    else if (a.th t).fi = 0 then sM (sT a t (TH.mk 1 ((a.th t).pl) ((a.mo o).de) ((a.th t).fi) ((a.th t).fp) ((a.th t).fs) ((a.th t).n) ((a.th t).r))) o (MO.mk 0 0 ((a.mo o).q ++ [t]))
    else sT a t (aRun P t (aPut (TH.mk ((a.th t).st) ((a.th t).pl) ((a.th t).kp) 0 ((a.th t).fp) ((a.th t).fs) ((a.th t).n) ((a.th t).r)) 1)))
  else sT a t (aRun P t (aPut (a.th t) 0))
def aUnp (P : PR) (a : AS) (u : Nat) : AS := if (a.th u).st = 3 then aGo P a u else if (a.th u).st = 4 then a else sT a u (TH.mk ((a.th u).st) ((a.th u).pl) ((a.th u).kp) ((a.th u).fi) 1 ((a.th u).fs) ((a.th u).n) ((a.th u).r))
def aInt (a : AS) (u : Nat) : AS := if (a.th u).st = 4 then a else sT a u (TH.mk ((a.th u).st) ((a.th u).pl) ((a.th u).kp) 1 ((a.th u).fp) ((a.th u).fs) ((a.th u).n) ((a.th u).r))
def aOth (P : PR) (a : AS) (t u c : Nat) : AS :=
  if c = 6 then aGo P (aInt a u) t
  else if c = 7 then (if (a.th t).fp = 0 then (if (a.th t).fi = 0 then sT a t (TH.mk 3 ((a.th t).pl) ((a.th t).kp) ((a.th t).fi) ((a.th t).fp) ((a.th t).fs) ((a.th t).n) ((a.th t).r)) else sT a t (aRun P t (TH.mk ((a.th t).st) ((a.th t).pl) ((a.th t).kp) ((a.th t).fi) 0 ((a.th t).fs) ((a.th t).n) ((a.th t).r)))) else sT a t (aRun P t (TH.mk ((a.th t).st) ((a.th t).pl) ((a.th t).kp) ((a.th t).fi) 0 ((a.th t).fs) ((a.th t).n) ((a.th t).r))))
  else if c = 8 then aGo P (aUnp P a u) t
  else if c = 11 then sT a t (aRun P t (aPut (a.th t) (8 + u)))
  else if c = 12 then sT a t (aRun P t (aPut (TH.mk ((a.th t).st) ((a.th t).pl) ((a.th t).kp) 0 ((a.th t).fp) ((a.th t).fs) ((a.th t).n) ((a.th t).r)) (if (a.th t).fi = 0 then 5 else 4)))
  else (if (a.th t).fi = 0 then sT a t (aRun P t (a.th t)) else sT a t (aRun P t (aPut (TH.mk ((a.th t).st) ((a.th t).pl) ((a.th t).kp) 0 ((a.th t).fp) ((a.th t).fs) ((a.th t).n) ((a.th t).r)) 1)))
def aTak (P : PR) (a : AS) (t w : Nat) : AS :=
  if (a.th t).st = 0 then
    (if P.act t (a.th t).pl < 6 then aMon P a t (P.opd t (a.th t).pl) (P.act t (a.th t).pl) w else aOth P a t (P.opd t (a.th t).pl) (P.act t (a.th t).pl))
  else if (a.th t).st = 1 then
    (if w = 1 then sM (sT a t (TH.mk 2 ((aPut (TH.mk ((a.th t).st) ((a.th t).pl) ((a.th t).kp) 0 ((a.th t).fp) ((a.th t).fs) ((a.th t).n) ((a.th t).r)) 1).pl) ((aPut (TH.mk ((a.th t).st) ((a.th t).pl) ((a.th t).kp) 0 ((a.th t).fp) ((a.th t).fs) ((a.th t).n) ((a.th t).r)) 1).kp) ((aPut (TH.mk ((a.th t).st) ((a.th t).pl) ((a.th t).kp) 0 ((a.th t).fp) ((a.th t).fs) ((a.th t).n) ((a.th t).r)) 1).fi) ((aPut (TH.mk ((a.th t).st) ((a.th t).pl) ((a.th t).kp) 0 ((a.th t).fp) ((a.th t).fs) ((a.th t).n) ((a.th t).r)) 1).fp) ((aPut (TH.mk ((a.th t).st) ((a.th t).pl) ((a.th t).kp) 0 ((a.th t).fp) ((a.th t).fs) ((a.th t).n) ((a.th t).r)) 1).fs) ((aPut (TH.mk ((a.th t).st) ((a.th t).pl) ((a.th t).kp) 0 ((a.th t).fp) ((a.th t).fs) ((a.th t).n) ((a.th t).r)) 1).n) ((aPut (TH.mk ((a.th t).st) ((a.th t).pl) ((a.th t).kp) 0 ((a.th t).fp) ((a.th t).fs) ((a.th t).n) ((a.th t).r)) 1).r))) (P.opd t (a.th t).pl) (MO.mk ((a.mo (P.opd t (a.th t).pl)).ow) ((a.mo (P.opd t (a.th t).pl)).de) ((a.mo (P.opd t (a.th t).pl)).q.erase t))
    else if w = 2 then sM (sT a t (TH.mk 2 ((a.th t).pl) ((a.th t).kp) ((a.th t).fi) ((a.th t).fp) 1 ((a.th t).n) ((a.th t).r))) (P.opd t (a.th t).pl) (MO.mk ((a.mo (P.opd t (a.th t).pl)).ow) ((a.mo (P.opd t (a.th t).pl)).de) ((a.mo (P.opd t (a.th t).pl)).q.erase t))
    else sM (sT a t (TH.mk 2 ((aPut (a.th t) 3).pl) ((aPut (a.th t) 3).kp) ((aPut (a.th t) 3).fi) ((aPut (a.th t) 3).fp) ((aPut (a.th t) 3).fs) ((aPut (a.th t) 3).n) ((aPut (a.th t) 3).r))) (P.opd t (a.th t).pl) (MO.mk ((a.mo (P.opd t (a.th t).pl)).ow) ((a.mo (P.opd t (a.th t).pl)).de) ((a.mo (P.opd t (a.th t).pl)).q.erase t)))
  else if (a.th t).st = 2 then sT (sM a (P.opd t (a.th t).pl) (MO.mk (t + 1) ((a.th t).kp) ((a.mo (P.opd t (a.th t).pl)).q))) t (aRun P t (TH.mk ((a.th t).st) ((a.th t).pl) 0 ((a.th t).fi) ((a.th t).fp) ((a.th t).fs) ((a.th t).n) ((a.th t).r)))
  else if (a.th t).st = 3 then (if w = 3 then sT a t (aRun P t (TH.mk ((a.th t).st) ((a.th t).pl) ((a.th t).kp) ((a.th t).fi) ((a.th t).fp) 1 ((a.th t).n) ((a.th t).r))) else sT a t (aRun P t (a.th t)))
  else a
def aBeg (P : PR) : AS := ⟨fun t => ⟨if P.len t = 0 then 4 else 0, 0, 0, 0, 0, 0, 0, 0⟩, fun _ => ⟨0, 0, []⟩⟩
def okPR (P : PR) : Prop := (∀ t, t < 4 → P.len t ≤ 6) ∧ (∀ t p, t < 4 → p < P.len t → P.act t p ≤ 12) ∧ (∀ t p, t < 4 → p < P.len t → P.act t p < 6 → P.opd t p < 2) ∧ (∀ t p, t < 4 → p < P.len t → P.act t p = 6 ∨ P.act t p = 8 ∨ P.act t p = 9 ∨ P.act t p = 11 → P.opd t p < 4) ∧ (P.loose ≤ 1)
theorem okPR.len {P : PR} (h9 : okPR P) : ∀ t, t < 4 → P.len t ≤ 6 := h9.1
theorem okPR.act {P : PR} (h9 : okPR P) : ∀ t p, t < 4 → p < P.len t → P.act t p ≤ 12 := h9.2.1
theorem okPR.opm {P : PR} (h9 : okPR P) : ∀ t p, t < 4 → p < P.len t → P.act t p < 6 → P.opd t p < 2 := h9.2.2.1
theorem okPR.opt {P : PR} (h9 : okPR P) : ∀ t p, t < 4 → p < P.len t → P.act t p = 6 ∨ P.act t p = 8 ∨ P.act t p = 9 ∨ P.act t p = 11 → P.opd t p < 4 := h9.2.2.2.1
theorem okPR.loose {P : PR} (h9 : okPR P) : P.loose ≤ 1 := h9.2.2.2.2
def okTH (P : PR) (t : Nat) (x : TH) : Prop := (x.st ≤ 4) ∧ (x.fi ≤ 1) ∧ (x.fp ≤ 1) ∧ (x.fs ≤ 1) ∧ (x.pl ≤ P.len t) ∧ (¬ x.st = 4 → x.pl < P.len t) ∧ (x.n ≤ x.pl + (if x.st = 2 then 1 else 0)) ∧ (x.r < 12 ^ x.n) ∧ (x.kp ≤ x.pl) ∧ (x.st = 1 ∨ x.st = 2 → 1 ≤ x.kp ∧ (P.act t x.pl = 2 ∨ P.act t x.pl = 3))
theorem okTH.st {P : PR} {t : Nat} {x : TH} (h9 : okTH P t x) : x.st ≤ 4 := h9.1
theorem okTH.fi {P : PR} {t : Nat} {x : TH} (h9 : okTH P t x) : x.fi ≤ 1 := h9.2.1
theorem okTH.fp {P : PR} {t : Nat} {x : TH} (h9 : okTH P t x) : x.fp ≤ 1 := h9.2.2.1
theorem okTH.fs {P : PR} {t : Nat} {x : TH} (h9 : okTH P t x) : x.fs ≤ 1 := h9.2.2.2.1
theorem okTH.pl {P : PR} {t : Nat} {x : TH} (h9 : okTH P t x) : x.pl ≤ P.len t := h9.2.2.2.2.1
theorem okTH.lt {P : PR} {t : Nat} {x : TH} (h9 : okTH P t x) : ¬ x.st = 4 → x.pl < P.len t := h9.2.2.2.2.2.1
theorem okTH.n {P : PR} {t : Nat} {x : TH} (h9 : okTH P t x) : x.n ≤ x.pl + (if x.st = 2 then 1 else 0) := h9.2.2.2.2.2.2.1
theorem okTH.r {P : PR} {t : Nat} {x : TH} (h9 : okTH P t x) : x.r < 12 ^ x.n := h9.2.2.2.2.2.2.2.1
theorem okTH.kp {P : PR} {t : Nat} {x : TH} (h9 : okTH P t x) : x.kp ≤ x.pl := h9.2.2.2.2.2.2.2.2.1
theorem okTH.kp1 {P : PR} {t : Nat} {x : TH} (h9 : okTH P t x) : x.st = 1 ∨ x.st = 2 → 1 ≤ x.kp ∧ (P.act t x.pl = 2 ∨ P.act t x.pl = 3) := h9.2.2.2.2.2.2.2.2.2
def okAS (P : PR) (a : AS) : Prop := (∀ t, t < 4 → okTH P t (a.th t)) ∧ (∀ t, t < 4 → (a.th t).st = 1 → t ∈ (a.mo (P.opd t (a.th t).pl)).q) ∧ (∀ m, m < 2 → (a.mo m).q.Nodup) ∧ (∀ m, m < 2 → ∀ v, v ∈ (a.mo m).q → v < 4 ∧ (a.th v).st = 1 ∧ P.opd v (a.th v).pl = m) ∧ (∀ m, m < 2 → (a.mo m).ow ≤ 4) ∧ (∀ m, m < 2 → (a.mo m).ow = 0 → (a.mo m).de = 0) ∧ (∀ m t, m < 2 → t < 4 → (a.mo m).ow = t + 1 → 1 ≤ (a.mo m).de ∧ (a.mo m).de ≤ (a.th t).pl)
theorem okAS.th {P : PR} {a : AS} (h9 : okAS P a) : ∀ t, t < 4 → okTH P t (a.th t) := h9.1
theorem okAS.wt {P : PR} {a : AS} (h9 : okAS P a) : ∀ t, t < 4 → (a.th t).st = 1 → t ∈ (a.mo (P.opd t (a.th t).pl)).q := h9.2.1
theorem okAS.nd {P : PR} {a : AS} (h9 : okAS P a) : ∀ m, m < 2 → (a.mo m).q.Nodup := h9.2.2.1
theorem okAS.q {P : PR} {a : AS} (h9 : okAS P a) : ∀ m, m < 2 → ∀ v, v ∈ (a.mo m).q → v < 4 ∧ (a.th v).st = 1 ∧ P.opd v (a.th v).pl = m := h9.2.2.2.1
theorem okAS.ow {P : PR} {a : AS} (h9 : okAS P a) : ∀ m, m < 2 → (a.mo m).ow ≤ 4 := h9.2.2.2.2.1
theorem okAS.fr {P : PR} {a : AS} (h9 : okAS P a) : ∀ m, m < 2 → (a.mo m).ow = 0 → (a.mo m).de = 0 := h9.2.2.2.2.2.1
theorem okAS.de {P : PR} {a : AS} (h9 : okAS P a) : ∀ m t, m < 2 → t < 4 → (a.mo m).ow = t + 1 → 1 ≤ (a.mo m).de ∧ (a.mo m).de ≤ (a.th t).pl := h9.2.2.2.2.2.2
theorem okAS.opm {P : PR} {a : AS} (hP : okPR P) (h : okAS P a) {t : Nat} (ht : t < 4) (hs : (a.th t).st = 1 ∨ (a.th t).st = 2) : P.opd t (a.th t).pl < 2 := by
  have h1 := h.th t ht
  have h2 := h1.lt (by omega)
  refine hP.opm t _ ht h2 ?_
  have := (h1.kp1 hs).2
  omega
theorem nodup_len : ∀ (n : Nat) (l : List Nat), l.Nodup → (∀ v, v ∈ l → v < n) → l.length ≤ n
  | 0, l, _, h => by
    match l, h with
    | [], _ => exact Nat.le_refl _
    | x :: _, h => exact absurd (h x (by simp)) (Nat.not_lt_zero _)
  | n + 1, l, hn, h => by
    have h1 := nodup_len n (l.erase n) (hn.erase n) (fun v hv => by
      have h2 := (List.Nodup.mem_erase_iff hn).1 hv
      have := h v h2.2
      omega)
    have h2 := List.length_erase (a := n) (l := l)
    rw [h2] at h1
    split at h1 <;> omega
theorem okAS.len {P : PR} {a : AS} (h : okAS P a) {m : Nat} (hm : m < 2) : (a.mo m).q.length ≤ 4 := nodup_len 4 _ (h.nd m hm) (fun v hv => (h.q m hm v hv).1)
theorem okAS.len3 {P : PR} {a : AS} (h : okAS P a) {m t : Nat} (hm : m < 2) (ht : t < 4) (hs : ¬ (a.th t).st = 1) : (a.mo m).q.length < 4 := by
  have h1 : ((a.mo m).q ++ [t]).Nodup := by
    rw [List.nodup_append]
    refine ⟨h.nd m hm, by simp, fun x hx y hy => ?_⟩
    rw [List.mem_singleton] at hy
    subst hy
    intro he
    subst he
    exact hs (h.q m hm _ hx).2.1
  have h2 := nodup_len 4 _ h1 (fun v hv => by
    rcases List.mem_append.1 hv with h3 | h3
    · exact (h.q m hm v h3).1
    · rw [List.mem_singleton] at h3; omega)
  rw [List.length_append] at h2
  have h3 : [t].length = 1 := rfl
  omega
theorem okAS.setT {P : PR} {a : AS} (h : okAS P a) {t : Nat} (ht : t < 4) {x : TH} (hs : ¬ (a.th t).st = 1) (hx : okTH P t x) (hs' : ¬ x.st = 1) (hp : (a.th t).pl ≤ x.pl) : okAS P (sT a t x) :=
  ⟨fun u hu => by
    show okTH P u (if u = t then x else a.th u)
    split
    · rename_i e; subst e; exact hx
    · exact h.th u hu,
   fun u hu => by
    show (if u = t then x else a.th u).st = 1 → u ∈ (a.mo (P.opd u (if u = t then x else a.th u).pl)).q
    split
    · intro q; exact absurd q hs'
    · exact h.wt u hu,
   h.nd,
   fun m hm v hv => by
    have h1 := h.q m hm v hv
    have h2 : ¬ v = t := fun e => hs (e ▸ h1.2.1)
    show v < 4 ∧ (if v = t then x else a.th v).st = 1 ∧ P.opd v (if v = t then x else a.th v).pl = m
    rw [if_neg h2]
    exact h1,
   h.ow,
   h.fr,
   fun m u hm hu he => by
    have h1 := h.de m u hm hu he
    show 1 ≤ (a.mo m).de ∧ (a.mo m).de ≤ (if u = t then x else a.th u).pl
    split
    · rename_i e; subst e; exact ⟨h1.1, Nat.le_trans h1.2 hp⟩
    · exact h1⟩
theorem okAS.setO {P : PR} {a : AS} (h : okAS P a) {m : Nat} {w d : Nat} (hw : w ≤ 4) (hf : w = 0 → d = 0) (hd : ∀ t, t < 4 → w = t + 1 → 1 ≤ d ∧ d ≤ (a.th t).pl) : okAS P (sM a m (MO.mk w d ((a.mo m).q))) :=
  ⟨h.th,
   fun t ht hs => by
    have h1 := h.wt t ht hs
    show t ∈ (if P.opd t (a.th t).pl = m then (MO.mk w d ((a.mo m).q)) else a.mo (P.opd t (a.th t).pl)).q
    split
    · rename_i e; rw [e] at h1; exact h1
    · exact h1,
   fun m' hm => by
    show (if m' = m then (MO.mk w d ((a.mo m).q)) else a.mo m').q.Nodup
    split
    · rename_i e; subst e; exact h.nd _ hm
    · exact h.nd _ hm,
   fun m' hm v hv => by
    have hv : v ∈ (if m' = m then (MO.mk w d ((a.mo m).q)) else a.mo m').q := hv
    split at hv
    · rename_i e; subst e; exact h.q _ hm v hv
    · exact h.q _ hm v hv,
   fun m' hm => by
    show (if m' = m then (MO.mk w d ((a.mo m).q)) else a.mo m').ow ≤ 4
    split
    · exact hw
    · exact h.ow _ hm,
   fun m' hm => by
    show (if m' = m then (MO.mk w d ((a.mo m).q)) else a.mo m').ow = 0 → (if m' = m then (MO.mk w d ((a.mo m).q)) else a.mo m').de = 0
    split
    · exact hf
    · exact h.fr _ hm,
   fun m' t hm ht => by
    show (if m' = m then (MO.mk w d ((a.mo m).q)) else a.mo m').ow = t + 1 → 1 ≤ (if m' = m then (MO.mk w d ((a.mo m).q)) else a.mo m').de ∧ (if m' = m then (MO.mk w d ((a.mo m).q)) else a.mo m').de ≤ (a.th t).pl
    split
    · exact hd t ht
    · exact h.de _ _ hm ht⟩
theorem okAS.out {P : PR} {a : AS} (h : okAS P a) {o v : Nat} (ho : o < 2) (hv : v ∈ (a.mo o).q) {x : TH} (hx : okTH P v x) (hs : ¬ x.st = 1) (hp : (a.th v).pl ≤ x.pl) : okAS P (sT (sM a o (MO.mk ((a.mo o).ow) ((a.mo o).de) ((a.mo o).q.erase v))) v x) := by
  obtain ⟨hv4, hvs, hvo⟩ := h.q o ho v hv
  refine ⟨fun u hu => ?_, fun u hu => ?_, fun m hm => ?_, fun m hm u hu => ?_, fun m hm => ?_, fun m hm => ?_, fun m u hm hu => ?_⟩
  · show okTH P u (if u = v then x else a.th u)
    split
    · rename_i e; subst e; exact hx
    · exact h.th u hu
  · show (if u = v then x else a.th u).st = 1 → u ∈ (if P.opd u (if u = v then x else a.th u).pl = o then (MO.mk ((a.mo o).ow) ((a.mo o).de) ((a.mo o).q.erase v)) else a.mo (P.opd u (if u = v then x else a.th u).pl)).q
    split
    · intro q; exact absurd q hs
    · rename_i e
      intro hq
      have h1 := h.wt u hu hq
      split
      · rename_i e2
        rw [e2] at h1
        exact (List.Nodup.mem_erase_iff (h.nd o ho)).2 ⟨e, h1⟩
      · exact h1
  · show (if m = o then (MO.mk ((a.mo o).ow) ((a.mo o).de) ((a.mo o).q.erase v)) else a.mo m).q.Nodup
    split
    · exact (h.nd o ho).erase v
    · exact h.nd m hm
  · have hu : u ∈ (if m = o then (MO.mk ((a.mo o).ow) ((a.mo o).de) ((a.mo o).q.erase v)) else a.mo m).q := hu
    show u < 4 ∧ (if u = v then x else a.th u).st = 1 ∧ P.opd u (if u = v then x else a.th u).pl = m
    split at hu
    · rename_i e
      subst e
      have h1 := (List.Nodup.mem_erase_iff (h.nd m ho)).1 hu
      rw [if_neg h1.1]
      exact h.q m ho u h1.2
    · rename_i e
      have h1 := h.q m hm u hu
      have h2 : ¬ u = v := fun e2 => e (by rw [← h1.2.2, e2, hvo])
      rw [if_neg h2]
      exact h1
  · show (if m = o then (MO.mk ((a.mo o).ow) ((a.mo o).de) ((a.mo o).q.erase v)) else a.mo m).ow ≤ 4
    split
    · exact h.ow o ho
    · exact h.ow m hm
  · show (if m = o then (MO.mk ((a.mo o).ow) ((a.mo o).de) ((a.mo o).q.erase v)) else a.mo m).ow = 0 → (if m = o then (MO.mk ((a.mo o).ow) ((a.mo o).de) ((a.mo o).q.erase v)) else a.mo m).de = 0
    split
    · exact h.fr o ho
    · exact h.fr m hm
  · show (if m = o then (MO.mk ((a.mo o).ow) ((a.mo o).de) ((a.mo o).q.erase v)) else a.mo m).ow = u + 1 → 1 ≤ (if m = o then (MO.mk ((a.mo o).ow) ((a.mo o).de) ((a.mo o).q.erase v)) else a.mo m).de ∧ (if m = o then (MO.mk ((a.mo o).ow) ((a.mo o).de) ((a.mo o).q.erase v)) else a.mo m).de ≤ (if u = v then x else a.th u).pl
    intro he
    have h1 : (a.mo m).ow = u + 1 := by
      split at he
      · rename_i e; subst e; exact he
      · exact he
    have h2 := h.de m u hm hu h1
    have h3 : (if m = o then (MO.mk ((a.mo o).ow) ((a.mo o).de) ((a.mo o).q.erase v)) else a.mo m).de = (a.mo m).de := by
      split
      · rename_i e; subst e; rfl
      · rfl
    rw [h3]
    refine ⟨h2.1, ?_⟩
    split
    · rename_i e; subst e; exact Nat.le_trans h2.2 hp
    · exact h2.2
