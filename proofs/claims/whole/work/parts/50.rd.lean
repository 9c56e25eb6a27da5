/-! reading, as it is meant -/
abbrev Rd : Type := Nat ⊕ (Nat × Nat × Nat × (Nat → Tm))
abbrev RdP : Type := Nat ⊕ (List Nat × Nat × Nat × (Nat → Tm))
section RD
variable (c : Nat → Int) (len : Nat)
def jB (j : Nat) : Nat := tB c len j
def jE (j : Nat) : Nat := tE c len (tB c len j)
def jO (j : Nat) (ch : Int) : Bool := decide (tB c len j < len ∧ c (tB c len j) = ch)
def jW (j : Nat) : Option Nat := wdx c (tB c len j) (tE c len (tB c len j))
def jN (j : Nat) : Int := nameA c (tB c len j) (tE c len (tB c len j))
def jL (j : Nat) : List Nat := tkL c (tB c len j) (tE c len (tB c len j))
def jU (j : Nat) : Int := numA c (tB c len j) (tE c len (tB c len j))
def jD (j : Nat) : Nat := widA c (tB c len j) (tE c len (tB c len j))
def jV (j : Nat) : Int := bitF c (widA c (tB c len j) (tE c len (tB c len j))) (tE c len (tB c len j) - widA c (tB c len j) (tE c len (tB c len j))) 0
end RD
/-- what a name means: the innermost let, else the constant -/
def mng (s : Sc) : List (List Nat × Nat) → List Nat → Int
  | [], L => lkC s L
  | p :: r, L => if p.1 = L then (p.2 : Int) else mng s r L
def mTru : Tm := (1, 0, -1, -1, -1, 0, 0, 0)
def mFal : Tm := (2, 0, -1, -1, -1, 0, 0, 0)
def mBit (w v : Int) : Tm := (3, w, -1, -1, -1, w, v, 0)
def wrd (s : Int) : Prop := 1 ≤ s ∧ s ≤ 4
/-- whether part i of the sort own may stand there -/
def fitP (k : Int) (i : Nat) (own first second number : Int) : Prop :=
  if 4 ≤ k ∧ k ≤ 8 then own = 0 else if k = 9 ∨ k = 10 then i = 0 ∨ own = first
  else if k = 11 then (if i = 0 then own = 0 else i = 1 ∨ own = second)
  else if 12 ≤ k ∧ k ≤ 28 then (1 ≤ own ∧ own ≤ 4) ∧ (i = 0 ∨ own = first)
  else if k = 29 then (1 ≤ own ∧ own ≤ 4) ∧ (i = 0 ∨ own + first ≤ 4)
  else if k = 30 then (1 ≤ own ∧ own ≤ 4) ∧ number < own
  else if k = 31 ∨ k = 32 then (1 ≤ own ∧ own ≤ 4) ∧ own + number ≤ 4
  else (if i = 0 then 4 < own else if i = 1 then own = 1 else own = first - 4)
def fitD (k : Int) (i : Nat) (own first second number : Int) : Decidable (fitP k i own first second number) := by
  unfold fitP
  infer_instance
def fitB (k : Int) (i : Nat) (own first second number : Int) : Bool := @decide _ (fitD k i own first second number)
theorem fitB_t {k : Int} {i : Nat} {a b d e : Int} : fitB k i a b d e = true ↔ fitP k i a b d e := by
  unfold fitB
  exact @decide_eq_true_iff _ (fitD k i a b d e)
def resS (k s0 s1 p q : Int) : Int := if k = 11 then s1 else if 12 ≤ k ∧ k ≤ 24 then s0 else if k = 29 then s0 + s1 else if k = 30 then p - q + 1 else if k = 31 ∨ k = 32 then s0 + p else if k = 33 then s0 - 4 else if k = 34 then s0 else 0
def pN (ps : List Nat) (i : Nat) : Int := match ps[i]? with
  | some t => (t : Int)
  | none => -1
def tmOf (k : Int) (ts : Nat → Tm) (ps : List Nat) (p q : Int) : Tm := (k, resS k (tS (ts (ps.getD 0 0))) (tS (ts (ps.getD 1 0))) p q, pN ps 0, pN ps 1, pN ps 2, p, q, 0)
def mkR (n : Nat) (ts : Nat → Tm) (m : Tm) (j : Nat) : Rd := .inr (mkI n ts m, j, mkN n ts m, mkT n ts m)
section RD2
variable (c : Nat → Int) (len : Nat)
def rdA (s : Sc) (lets : List (List Nat × Nat)) (j n : Nat) (ts : Nat → Tm) : Rd :=
  if jW c len j = some 8 then mkR n ts mTru (j + 1)
  else if jW c len j = some 9 then mkR n ts mFal (j + 1)
  else if 0 < jD c len j then mkR n ts (mBit (jD c len j) (jV c len j)) (j + 1)
  else if jN c len j = 0 then .inl j
  else if mng s lets (jL c len j) = -1 then .inl j
  else .inr ((mng s lets (jL c len j)).toNat, j + 1, n, ts)
def rdP (rd : Nat → Nat → (Nat → Tm) → Rd) (k p : Int) : Nat → List Nat → Nat → Nat → (Nat → Tm) → RdP
  | 0, ps, j, n, ts => .inr (ps, j, n, ts)
  | d + 1, ps, j, n, ts => match rd j n ts with
    | .inl e => .inl e
    | .inr (t, j', n', ts') => if fitB k ps.length (tS (ts' t)) (tS (ts' ((ps ++ [t]).getD 0 0))) (tS (ts' ((ps ++ [t]).getD 1 0))) p = true then rdP rd k p d (ps ++ [t]) j' n' ts' else .inl j
def rdF (k p q : Int) (r : RdP) : Rd := match r with
  | .inl e => .inl e
  | .inr (ps, j, n, ts) => if jO c len j 41 = true then mkR n ts (tmOf k ts ps p q) (j + 1) else .inl j
def rdApp (rd : Nat → Nat → (Nat → Tm) → Rd) (k p q : Int) (j n : Nat) (ts : Nat → Tm) : Rd := rdF c len k p q (rdP rd k p (np k).toNat [] j n ts)
def rdNum (rd : Nat → Nat → (Nat → Tm) → Rd) (j n : Nat) (ts : Nat → Tm) : Rd :=
  if ¬ jW c len j = some 3 then .inl j
  else if ¬ (jW c len (j + 1) = some 37 ∨ jW c len (j + 1) = some 38 ∨ jW c len (j + 1) = some 39) then .inl (j + 1)
  else if jU c len (j + 2) = -1 then .inl (j + 2)
  else if jW c len (j + 1) = some 37 then
    (if jU c len (j + 3) = -1 ∨ jU c len (j + 2) < jU c len (j + 3) then .inl (j + 3)
    else if jO c len (j + 4) 41 = true then rdApp c len rd 30 (jU c len (j + 2)) (jU c len (j + 3)) (j + 5) n ts else .inl (j + 4))
  else if jO c len (j + 3) 41 = true then rdApp c len rd (if jW c len (j + 1) = some 38 then 31 else 32) (jU c len (j + 2)) 0 (j + 4) n ts else .inl (j + 3)
/-- behind the given term of a let -/
def rdL2 (rd : List (List Nat × Nat) → Nat → Nat → (Nat → Tm) → Rd) (lets : List (List Nat × Nat)) (L : List Nat) (r : Rd) : Rd := match r with
  | .inl e => .inl e
  | .inr (t, j, n, ts) => if ¬ jO c len j 41 = true then .inl j else if ¬ jO c len (j + 1) 41 = true then .inl (j + 1)
    else match rd ((L, t) :: lets) (j + 2) n ts with
      | .inl e => .inl e
      | .inr (t2, j2, n2, ts2) => if jO c len j2 41 = true then .inr (t2, j2 + 1, n2, ts2) else .inl j2
def rdLet (rd : List (List Nat × Nat) → Nat → Nat → (Nat → Tm) → Rd) (lets : List (List Nat × Nat)) (j n : Nat) (ts : Nat → Tm) : Rd :=
  if ¬ jO c len j 40 = true then .inl j
  else if ¬ jO c len (j + 1) 40 = true then .inl (j + 1)
  else if jN c len (j + 2) = 0 then .inl (j + 2)
  else rdL2 c len rd lets (jL c len (j + 2)) (rd lets (j + 3) n ts)
def rdT (s : Sc) : Nat → List (List Nat × Nat) → Nat → Nat → (Nat → Tm) → Rd
  | 0, _, j, _, _ => .inl j
  | f + 1, lets, j, n, ts =>
    if ¬ jO c len j 40 = true then rdA c len s lets j n ts
    else if jO c len (j + 1) 40 = true then rdNum c len (rdT s f lets) (j + 2) n ts
    else match jW c len (j + 1) with
      | none => .inl (j + 1)
      | some w => if w = 10 then rdLet c len (rdT s f) lets (j + 2) n ts
        else if 11 ≤ w ∧ ¬ (37 ≤ w ∧ w ≤ 39) then rdApp c len (rdT s f lets) ((w : Int) - 7) 0 0 (j + 2) n ts else .inl (j + 1)
end RD2
/-! what reading keeps -/
def bitsS (s : Int) : Int := if s = 0 then 1 else if 4 < s then 2 * (s - 4) else s
def typ (ts : Nat → Tm) (m : Tm) : Prop := (tk m = 0 → to m + bitsS (tS m) ≤ 8) ∧ (tk m = 1 ∨ tk m = 2 → tS m = 0) ∧ (tk m = 3 → (1 ≤ tS m ∧ tS m ≤ 4) ∧ tq m < 2 ^ (tS m).toNat) ∧
  (4 ≤ tk m → fitP (tk m) 0 (tS (ts (tx m).toNat)) (tS (ts (tx m).toNat)) 0 (tp m) ∧ (2 ≤ np (tk m) → fitP (tk m) 1 (tS (ts (ty m).toNat)) (tS (ts (tx m).toNat)) (tS (ts (ty m).toNat)) (tp m)) ∧ (3 ≤ np (tk m) → fitP (tk m) 2 (tS (ts (tz m).toNat)) (tS (ts (tx m).toNat)) (tS (ts (ty m).toNat)) (tp m)) ∧
    tS m = resS (tk m) (tS (ts (tx m).toNat)) (tS (ts (ty m).toNat)) (tp m) (tq m) ∧ (tk m = 30 → tq m ≤ tp m) ∧ (¬ (30 ≤ tk m ∧ tk m ≤ 32) → tp m = 0) ∧ (tk m ≠ 30 → tq m = 0))
def WF (n : Nat) (ts : Nat → Tm) : Prop := (∀ t, t < n → shp (ts t) ∧ (tx (ts t) < t ∧ ty (ts t) < t ∧ tz (ts t) < t) ∧ typ ts (ts t)) ∧ ∀ t u, t < u → u < n → ts t ≠ ts u
/-- the term t is built of constants in A -/
def al (n : Nat) (ts : Nat → Tm) (A : Nat → Prop) (t : Nat) : Prop := ∃ S : Nat → Prop, S t ∧ ∀ u, S u → u < n ∧ (tk (ts u) = 0 → A u) ∧ (0 ≤ tx (ts u) → S (tx (ts u)).toNat) ∧ (0 ≤ ty (ts u) → S (ty (ts u)).toNat) ∧ (0 ≤ tz (ts u) → S (tz (ts u)).toNat)
theorem al_lt {n : Nat} {ts : Nat → Tm} {A : Nat → Prop} {t : Nat} (h : al n ts A t) : t < n := by
  obtain ⟨S, h1, h2⟩ := h
  exact (h2 t h1).1
theorem al_ext {n n' : Nat} {ts ts' : Nat → Tm} {A : Nat → Prop} {t : Nat} (hn : n ≤ n') (he : ∀ i, i < n → ts' i = ts i) (h : al n ts A t) : al n' ts' A t := by
  obtain ⟨S, h1, h2⟩ := h
  refine ⟨S, h1, fun u hu => ?_⟩
  obtain ⟨a, b⟩ := h2 u hu
  rw [he u a]
  exact ⟨Nat.lt_of_lt_of_le a hn, b⟩
theorem mt_new {n : Nat} {ts : Nat → Tm} {m : Tm} : mkT n ts m n = m := if_pos rfl
theorem mt_old {n : Nat} {ts : Nat → Tm} {m : Tm} {i : Nat} (h : i < n) : mkT n ts m i = ts i := if_neg (by omega)
theorem mt_at {n : Nat} {ts : Nat → Tm} {m : Tm} : mkI n ts m < mkN n ts m ∧ mkT n ts m (mkI n ts m) = m ∧ n ≤ mkN n ts m ∧ mkN n ts m ≤ n + 1 := by
  unfold mkI mkN
  cases q : fnd ts m n 0 with
  | none =>
    simp only [Option.isSome, Option.getD, Bool.false_eq_true, if_false]
    exact ⟨by omega, mt_new, by omega, by omega⟩
  | some t =>
    have := fnd_b _ _ _ q
    simp only [Option.isSome, Option.getD, if_true]
    exact ⟨by omega, by rw [mt_old (by omega)]; exact this.2.2, by omega, by omega⟩
theorem mt_wf {n : Nat} {ts : Nat → Tm} {m : Tm} (W : WF n ts) (hs : shp m) (hp : tx m < n ∧ ty m < n ∧ tz m < n) (ht : typ ts m) : WF (mkN n ts m) (mkT n ts m) := by
  have old : ∀ t, t < n → shp (mkT n ts m t) ∧ (tx (mkT n ts m t) < t ∧ ty (mkT n ts m t) < t ∧ tz (mkT n ts m t) < t) ∧ typ (mkT n ts m) (mkT n ts m t) := by
    intro t h
    obtain ⟨a, b, d⟩ := W.1 t h
    rw [mt_old h]
    refine ⟨a, b, ?_⟩
    have e : ∀ x : Int, x < t → ¬ n = x.toNat → True := fun _ _ _ => trivial
    unfold typ at d ⊢
    have q1 : mkT n ts m (tx (ts t)).toNat = ts (tx (ts t)).toNat := mt_old (by omega)
    have q2 : mkT n ts m (ty (ts t)).toNat = ts (ty (ts t)).toNat := mt_old (by omega)
    have q3 : mkT n ts m (tz (ts t)).toNat = ts (tz (ts t)).toNat := mt_old (by omega)
    rw [q1, q2, q3]
    exact d
  unfold mkN
  cases q : fnd ts m n 0 with
  | some t =>
    simp only [Option.isSome, if_true]
    refine ⟨old, fun t u h1 h2 => ?_⟩
    rw [mt_old (by omega), mt_old (by omega)]
    exact W.2 t u h1 h2
  | none =>
    simp only [Option.isSome, Bool.false_eq_true, if_false]
    refine ⟨fun t h => ?_, fun t u h1 h2 => ?_⟩
    · by_cases e : t = n
      · subst e
        rw [mt_new]
        refine ⟨hs, hp, ?_⟩
        by_cases n0 : t = 0
        · subst n0
          unfold typ at ht ⊢
          unfold shp at hs
          have : tk m < 4 := by
            apply Decidable.byContradiction
            intro z
            have : 1 ≤ np (tk m) := by
              unfold np
              rw [if_neg (by omega)]
              split
              · omega
              · split <;> omega
            omega
          exact ⟨ht.1, ht.2.1, ht.2.2.1, fun z => by omega⟩
        · unfold typ at ht ⊢
          have q1 : mkT t ts m (tx m).toNat = ts (tx m).toNat := mt_old (by omega)
          have q2 : mkT t ts m (ty m).toNat = ts (ty m).toNat := mt_old (by omega)
          have q3 : mkT t ts m (tz m).toNat = ts (tz m).toNat := mt_old (by omega)
          rw [q1, q2, q3]
          exact ht
      · exact old t (by omega)
    · by_cases e : u = n
      · subst e
        rw [mt_new, mt_old h1]
        exact fnd_n _ _ q t (by omega) (by omega)
      · rw [mt_old (by omega), mt_old (by omega)]
        exact W.2 t u h1 (by omega)
theorem mt_al {n : Nat} {ts : Nat → Tm} {m : Tm} {A : Nat → Prop} (h0 : tk m ≠ 0) (h1 : 0 ≤ tx m → al n ts A (tx m).toNat) (h2 : 0 ≤ ty m → al n ts A (ty m).toNat) (h3 : 0 ≤ tz m → al n ts A (tz m).toNat) : al (mkN n ts m) (mkT n ts m) A (mkI n ts m) := by
  have hm := mt_at (n := n) (ts := ts) (m := m)
  have ext : ∀ t, al n ts A t → al (mkN n ts m) (mkT n ts m) A t := fun t => al_ext hm.2.2.1 (fun i hi => mt_old hi)
  have pick : ∀ x : Int, (0 ≤ x → al n ts A x.toNat) → ∃ S : Nat → Prop, (0 ≤ x → S x.toNat) ∧ ∀ u, S u → u < mkN n ts m ∧ (tk (mkT n ts m u) = 0 → A u) ∧ (0 ≤ tx (mkT n ts m u) → S (tx (mkT n ts m u)).toNat) ∧ (0 ≤ ty (mkT n ts m u) → S (ty (mkT n ts m u)).toNat) ∧ (0 ≤ tz (mkT n ts m u) → S (tz (mkT n ts m u)).toNat) := by
    intro x hx
    by_cases q : 0 ≤ x
    · obtain ⟨S, a, b⟩ := ext _ (hx q)
      exact ⟨S, fun _ => a, b⟩
    · exact ⟨fun _ => False, fun z => absurd z q, fun u z => z.elim⟩
  obtain ⟨S1, a1, b1⟩ := pick _ h1
  obtain ⟨S2, a2, b2⟩ := pick _ h2
  obtain ⟨S3, a3, b3⟩ := pick _ h3
  refine ⟨fun u => u = mkI n ts m ∨ S1 u ∨ S2 u ∨ S3 u, Or.inl rfl, fun u hu => ?_⟩
  rcases hu with rfl | hu | hu | hu
  · rw [hm.2.1]
    exact ⟨hm.1, fun z => absurd z h0, fun z => Or.inr (Or.inl (a1 z)), fun z => Or.inr (Or.inr (Or.inl (a2 z))), fun z => Or.inr (Or.inr (Or.inr (a3 z)))⟩
  · obtain ⟨x1, x2, x3, x4, x5⟩ := b1 u hu
    exact ⟨x1, x2, fun z => Or.inr (Or.inl (x3 z)), fun z => Or.inr (Or.inl (x4 z)), fun z => Or.inr (Or.inl (x5 z))⟩
  · obtain ⟨x1, x2, x3, x4, x5⟩ := b2 u hu
    exact ⟨x1, x2, fun z => Or.inr (Or.inr (Or.inl (x3 z))), fun z => Or.inr (Or.inr (Or.inl (x4 z))), fun z => Or.inr (Or.inr (Or.inl (x5 z)))⟩
  · obtain ⟨x1, x2, x3, x4, x5⟩ := b3 u hu
    exact ⟨x1, x2, fun z => Or.inr (Or.inr (Or.inr (x3 z))), fun z => Or.inr (Or.inr (Or.inr (x4 z))), fun z => Or.inr (Or.inr (Or.inr (x5 z)))⟩
