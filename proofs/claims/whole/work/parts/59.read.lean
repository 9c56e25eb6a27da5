/-! a whole command: meant, and the class's read -/
section RD3
variable (c : Nat → Int) (len : Nat)
/-- the width of a word's sort, behind its opening bracket -/
def rdW (most : Int) (j : Nat) : Nat ⊕ (Int × Nat) :=
  if ¬ jW c len j = some 3 then .inl j
  else if ¬ jW c len (j + 1) = some 1 then .inl (j + 1)
  else if jU c len (j + 2) < 1 ∨ most < jU c len (j + 2) then .inl (j + 2)
  else if jO c len (j + 3) 41 = true then .inr (jU c len (j + 2), j + 4) else .inl (j + 3)
/-- behind the first of an array's two sorts -/
def rdS2 (r : Nat ⊕ (Int × Nat)) : Nat ⊕ (Int × Nat) := match r with
  | .inl e => .inl e
  | .inr (_, j) => if ¬ jO c len j 40 = true then .inl j else match rdW c len 4 (j + 1) with
    | .inl e => .inl e
    | .inr (w, j') => if jO c len j' 41 = true then .inr (w + 4, j' + 1) else .inl j'
def rdS (j : Nat) : Nat ⊕ (Int × Nat) :=
  if jW c len j = some 0 then .inr (0, j + 1)
  else if ¬ jO c len j 40 = true then .inl j
  else if ¬ jW c len (j + 1) = some 2 then rdW c len 4 (j + 1)
  else if ¬ jO c len (j + 2) 40 = true then .inl (j + 2)
  else rdS2 c len (rdW c len 1 (j + 3))
end RD3
/-- what a command comes to: its fault's token; or its word, name, sort, term, and the terms then -/
abbrev Rc : Type := Nat ⊕ (Nat × List Nat × Int × Nat × Nat × (Nat → Tm))
section RD4
variable (c : Nat → Int) (len : Nat)
def rdE (j : Nat) (r : Nat × List Nat × Int × Nat × Nat × (Nat → Tm)) : Rc := if ¬ jO c len j 41 = true then .inl j else if jB c len (j + 1) = len then .inr r else .inl (j + 1)
def rdD (L : List Nat) (n : Nat) (ts : Nat → Tm) (r : Nat ⊕ (Int × Nat)) : Rc := match r with
  | .inl e => .inl e
  | .inr (so, j) => rdE c len j (4, L, so, 0, n, ts)
def rdQ (r : Rd) : Rc := match r with
  | .inl e => .inl e
  | .inr (t, j, n, ts) => if tS (ts t) = 0 then rdE c len j (5, [], 0, t, n, ts) else .inl 2
def rdC (s : Sc) (n : Nat) (ts : Nat → Tm) : Rc :=
  if ¬ jO c len 0 40 = true then .inl 0
  else if jW c len 1 = some 6 then rdE c len 2 (6, [], 0, 0, n, ts)
  else if jW c len 1 = some 7 then rdE c len 2 (7, [], 0, 0, n, ts)
  else if jW c len 1 = some 4 then (if jN c len 2 = 0 ∨ ¬ lkC s (jL c len 2) = -1 then .inl 2 else rdD c len (jL c len 2) n ts (rdS c len 3))
  else if jW c len 1 = some 5 then rdQ c len (rdT c len s 8 [] 2 n ts)
  else .inl 1
end RD4
/-- what reading a whole command leaves of the heap -/
def RdY (h h' : mx_H) : Prop := (∀ a k, a ≠ 6 → a ≠ 8 → a ≠ 9 → a ≠ 10 → a ≠ 18 → a ≠ 19 → a ≠ 20 → a ≠ 21 → h'.1 a k = h.1 a k) ∧ (∀ k, k ≠ 4 → h'.1 6 k = h.1 6 k) ∧ h'.2.1 = h.2.1 ∧ ∀ a, a ≠ 7 → h'.2.2 a = h.2.2 a
theorem RdY_x {L d : Nat} {h h' : mx_H} (X : RdX L d h h') : RdY h h' := ⟨X.1, X.2.1, X.2.2.2.2.2.1, X.2.2.2.2.2.2⟩
theorem RdY_t {h h1 h2 : mx_H} (a : RdY h h1) (b : RdY h1 h2) : RdY h h2 := by
  obtain ⟨a1, a2, a3, a4⟩ := a
  obtain ⟨b1, b2, b3, b4⟩ := b
  exact ⟨fun x k p1 p2 p3 p4 p5 p6 p7 p8 => by rw [b1 x k p1 p2 p3 p4 p5 p6 p7 p8, a1 x k p1 p2 p3 p4 p5 p6 p7 p8], fun k z => by rw [b2 k z, a2 k z], by rw [b3, a3], fun x z => by rw [b4 x z, a4 x z]⟩
theorem RdY_18 {h : mx_H} {k : Nat} {x : Int32} : RdY h (mx_u h.1 18 k x, h.2.1, h.2.2) := by
  refine ⟨fun b i _ _ _ _ p q _ _ => ?_, fun i _ => ?_, rfl, fun _ _ => rfl⟩
  all_goals
    dsimp only [mx_u]
    rw [if_neg (by omega)]
theorem RdY_r {h : mx_H} : RdY h h := ⟨fun _ _ _ _ _ _ _ _ _ _ => rfl, fun _ _ => rfl, rfl, fun _ _ => rfl⟩
theorem LetC_0 {f : Nat → Nat → Int32} : LetC [] f := trivial
section RC
variable {c : Nat → Int} {len N : Nat} {s : Sc} {A : Nat → Prop} {j n : Nat} {ts : Nat → Tm} {h : mx_H}
/-- a write into the reader's own fields -/
theorem RdC_w {k : Nat} {x : Int32} (R : RdC c len N s [] j n ts h) (hk : k ≠ 3 ∧ k ≠ 11) : RdC c len N s [] j n ts (mx_u h.1 18 k x, h.2.1, h.2.2) := by
  obtain ⟨r1, r2, r3, r4, r5, r6, r7⟩ := R
  have q : ∀ a i, a ≠ 18 → mx_u h.1 18 k x a i = h.1 a i := fun a i z => mu_c _ _ _ _ z
  refine ⟨TxtC_e (q 1 1 (by decide)) (fun i => q 2 i (by decide)) r1, TokC_e (q 1 5 (by decide)) (fun i => q 3 i (by decide)) (fun i => q 4 i (by decide)) rfl r2, ScopeC_e (fun a i p1 p2 => q a i (by omega)) r3, TermC_18 (by decide) r4, ?_, ?_, trivial⟩
  · dsimp only; rw [mu_k _ _ (by omega)]; exact r5
  · dsimp only; rw [mu_k _ _ (by omega)]; exact r6
def RdWO (c : Nat → Int) (len N : Nat) (s : Sc) (n : Nat) (ts : Nat → Tm) (h : mx_H) (r : Nat ⊕ (Int × Nat)) (X : Option mx_O) : Prop := match r with
  | .inl e => ∃ h' j', X = some (some (.int (iI (0))), h') ∧ h'.1 18 4 = iI (e : Int) ∧ e < 2000 ∧ RdC c len N s [] j' n ts h' ∧ RdY h h' ∧ h'.1 18 5 = h.1 18 5
  | .inr (w, j') => ∃ h', X = some (some (.int (iI (1))), h') ∧ RdC c len N s [] j' n ts h' ∧ h'.1 18 6 = iI w ∧ RdY h h' ∧ h'.1 18 5 = h.1 18 5
theorem RdWO_f {h' : mx_H} {e j' : Nat} {X : Option mx_O} (hX : X = some (some (.int (iI (0))), (mx_u h'.1 18 4 (iI (e : Int)), h'.2.1, h'.2.2))) (he : e < 2000) (R : RdC c len N s [] j' n ts h') (Y : RdY h h') (h5 : h'.1 18 5 = h.1 18 5) : RdWO c len N s n ts h (.inl e) X :=
  ⟨_, j', hX, by dsimp only; exact mu_s _ _ _ _, he, RdC_w R (by decide), RdY_t Y RdY_18, by dsimp only; rw [mu_k _ _ (by decide)]; exact h5⟩
theorem RdWO_t {h1 : mx_H} {r : Nat ⊕ (Int × Nat)} {X : Option mx_O} (Y : RdY h h1) (h5 : h1.1 18 5 = h.1 18 5) (O : RdWO c len N s n ts h1 r X) : RdWO c len N s n ts h r X := by
  match r, O with
  | .inl e, ⟨h', j', o1, o2, o3, o4, o5, o6⟩ => exact ⟨h', j', o1, o2, o3, o4, RdY_t Y o5, o6.trans h5⟩
  | .inr (w, j'), ⟨h', o1, o2, o3, o4, o5⟩ => exact ⟨h', o1, o2, o3, RdY_t Y o4, o5.trans h5⟩
theorem X4_readWidth_c {most : Int} (hm : 0 ≤ most ∧ most ≤ 4) (R : RdC c len N s [] j n ts h) (hj : j < 1000) : RdWO c len N s n ts h (rdW c len most j) (mx_C mm_X4_readWidth [.ref 18, .int (iI (most))] h) := by
  rw [c_X4_readWidth, e_X4_readWidth_0]
  unfold rdW
  have f20 : ∀ h' : mx_H, mx_D (4, mm_X4_readWidth, 20, [.ref 18, .int (iI (most))], []) h' = some (some (.int (iI (0))), h') := by
    intro h'
    rw [e_X4_readWidth_20]
    rfl
  by_cases q1 : jW c len j = some 3
  rotate_left
  · rw [if_pos q1]
    have b1 : mx_C mm_X4_word [.ref 18, .ref 1003] h = _ := X4_word_f R (by omega) (w := 3) (by decide) q1
    rw [b1]
    refine RdWO_f ?_ (by omega) R RdY_r rfl
    simp (disch := omega) only [↓reduceIte, ii_lit, ii_add, ii_sub, ii_mul, ii_neg, ii_lt_t, ii_lt_f, ii_le_t, ii_le_f, ii_eq_t, ii_eq_f, ii_in, ii_cl, ii_shr, ii_shl, ii_and1, ii_and255, Option.bind_some, Option.toList, List.cons_append, List.nil_append, Int.toNat_natCast, mu_s, mu_c, mu_k, bI_i0, bI_i1, bI_n, nb_0, nb_1, bI_ft, bI_ff, Bool.false_eq_true, reduceCtorEq, Bool.true_eq_false, decide_true, decide_false, eq_self, Int.reduceAdd, Int.reduceSub, Int.reduceMul, Int.reduceNeg, Int.reduceToNat, tn30, tn31, tn32, tn20, tn21, e_X4_readWidth_7, f20]
  rw [if_neg (fun z => z q1)]
  have b1 : mx_C mm_X4_word [.ref 18, .ref 1003] h = _ := X4_word_t R (by omega) (w := 3) (by decide) q1
  rw [b1]
  have R1 := RdC_3 (j + 1) R
  have Y1 : RdY h (mx_u h.1 18 3 (iI ((j + 1 : Nat) : Int)), h.2.1, h.2.2) := RdY_18
  have z1 : (mx_u h.1 18 3 (iI ((j + 1 : Nat) : Int)), h.2.1, h.2.2).1 18 5 = h.1 18 5 := by dsimp only; exact mu_k _ _ (by decide)
  generalize (mx_u h.1 18 3 (iI ((j + 1 : Nat) : Int)), h.2.1, h.2.2) = h1 at R1 Y1 z1
  refine Eq.subst (motive := fun X => RdWO c len N s n ts h _ X) (e_X4_readWidth_7 (s0 := iI 1) ..).symm ?_
  rw [if_neg (show ¬ iI 1 = 0 by decide)]
  by_cases q2 : jW c len (j + 1) = some 1
  rotate_left
  · rw [if_pos q2]
    have b2 : mx_C mm_X4_word [.ref 18, .ref 1001] h1 = _ := X4_word_f R1 (by omega) (w := 1) (by decide) q2
    rw [b2]
    refine RdWO_f ?_ (by omega) R1 Y1 z1
    simp (disch := omega) only [↓reduceIte, ii_lit, ii_add, ii_sub, ii_mul, ii_neg, ii_lt_t, ii_lt_f, ii_le_t, ii_le_f, ii_eq_t, ii_eq_f, ii_in, ii_cl, ii_shr, ii_shl, ii_and1, ii_and255, Option.bind_some, Option.toList, List.cons_append, List.nil_append, Int.toNat_natCast, mu_s, mu_c, mu_k, bI_i0, bI_i1, bI_n, nb_0, nb_1, bI_ft, bI_ff, Bool.false_eq_true, reduceCtorEq, Bool.true_eq_false, decide_true, decide_false, eq_self, Int.reduceAdd, Int.reduceSub, Int.reduceMul, Int.reduceNeg, Int.reduceToNat, tn30, tn31, tn32, tn20, tn21, e_X4_readWidth_17, f20]
  rw [if_neg (fun z => z q2)]
  have b2 : mx_C mm_X4_word [.ref 18, .ref 1001] h1 = _ := X4_word_t R1 (by omega) (w := 1) (by decide) q2
  rw [b2]
  have R2 := RdC_3 (j + 1 + 1) R1
  have Y2 : RdY h (mx_u h1.1 18 3 (iI ((j + 1 + 1 : Nat) : Int)), h1.2.1, h1.2.2) := RdY_t Y1 RdY_18
  have z2 : (mx_u h1.1 18 3 (iI ((j + 1 + 1 : Nat) : Int)), h1.2.1, h1.2.2).1 18 5 = h.1 18 5 := by dsimp only; rw [mu_k _ _ (by decide)]; exact z1
  generalize (mx_u h1.1 18 3 (iI ((j + 1 + 1 : Nat) : Int)), h1.2.1, h1.2.2) = h2 at R2 Y2 z2
  refine Eq.subst (motive := fun X => RdWO c len N s n ts h _ X) (e_X4_readWidth_17 (s0 := iI 1) ..).symm ?_
  rw [if_neg (show ¬ iI 1 = 0 by decide), R2.2.2.2.2.1, X8_numberAt_c R2.2.1 R2.1 (by omega)]
  refine Eq.subst (motive := fun X => RdWO c len N s n ts h _ X) (e_X4_readWidth_34 (s1 := iI (jU c len (j + 2))) ..).symm ?_
  have R3 : RdC c len N s [] (j + 1 + 1) n ts (mx_u h2.1 18 6 (iI (jU c len (j + 2))), h2.2.1, h2.2.2) := RdC_w R2 (by decide)
  have Y3 : RdY h (mx_u h2.1 18 6 (iI (jU c len (j + 2))), h2.2.1, h2.2.2) := RdY_t Y2 RdY_18
  have z3 : (mx_u h2.1 18 6 (iI (jU c len (j + 2))), h2.2.1, h2.2.2).1 18 5 = h.1 18 5 := by dsimp only; rw [mu_k _ _ (by decide)]; exact z2
  have s3 : (mx_u h2.1 18 6 (iI (jU c len (j + 2))), h2.2.1, h2.2.2).1 18 6 = iI (jU c len (j + 2)) := by dsimp only; exact mu_s _ _ _ _
  have f53 : ∀ h' : mx_H, RdC c len N s [] (j + 1 + 1) n ts h' → mx_D (4, mm_X4_readWidth, 53, [.ref 18, .int (iI (most))], []) h' = some (some (.int (iI (0))), (mx_u h'.1 18 4 (iI ((j + 2 : Nat) : Int)), h'.2.1, h'.2.2)) := by
    intro h' R'
    rw [e_X4_readWidth_53, R'.2.2.2.2.1, X4_failAt_c]
    refine Eq.trans (e_X4_readWidth_61 ..) ?_
    exact if_pos rfl
  rw [mu_s]
  have ub : jU c len (j + 2) = -1 ∨ (0 ≤ jU c len (j + 2) ∧ jU c len (j + 2) ≤ 99) := by
    by_cases z : jU c len (j + 2) = -1
    · exact Or.inl z
    · have := jU_l z; exact Or.inr (by omega)
  by_cases q3 : jU c len (j + 2) < 1
  · rw [if_pos (Or.inl q3), if_pos (show iI (jU c len (j + 2)) < 1 from (ii_lt (b := 1) (by omega)).mpr q3)]
    exact RdWO_f (f53 _ R3) (by omega) R3 Y3 z3
  rw [if_neg (show ¬ iI (jU c len (j + 2)) < 1 from fun z => q3 ((ii_lt (b := 1) (by omega)).mp z))]
  by_cases q4 : most < jU c len (j + 2)
  · rw [if_pos (Or.inr q4), if_neg (show ¬ iI (jU c len (j + 2)) ≤ iI most from fun z => by have := (ii_le (by omega)).mp z; omega)]
    exact RdWO_f (f53 _ R3) (by omega) R3 Y3 z3
  rw [if_neg (fun z => z.elim q3 q4), if_pos (show iI (jU c len (j + 2)) ≤ iI most from (ii_le (by omega)).mpr (by omega)), mu_k _ _ (by decide), R2.2.2.2.2.1, ii_s1]
  have R4 := RdC_3 (j + 1 + 1 + 1) R3
  have Y4 : RdY h (mx_u (mx_u h2.1 18 6 (iI (jU c len (j + 2)))) 18 3 (iI ((j + 1 + 1 + 1 : Nat) : Int)), h2.2.1, h2.2.2) := RdY_t Y3 RdY_18
  have z4 : (mx_u (mx_u h2.1 18 6 (iI (jU c len (j + 2)))) 18 3 (iI ((j + 1 + 1 + 1 : Nat) : Int)), h2.2.1, h2.2.2).1 18 5 = h.1 18 5 := by dsimp only; exact (mu_k _ _ (by decide)).trans (by dsimp only at z3; exact z3)
  have s4 : (mx_u (mx_u h2.1 18 6 (iI (jU c len (j + 2)))) 18 3 (iI ((j + 1 + 1 + 1 : Nat) : Int)), h2.2.1, h2.2.2).1 18 6 = iI (jU c len (j + 2)) := by dsimp only; exact (mu_k _ _ (by decide)).trans (by dsimp only at s3; exact s3)
  generalize (mx_u (mx_u h2.1 18 6 (iI (jU c len (j + 2)))) 18 3 (iI ((j + 1 + 1 + 1 : Nat) : Int)), h2.2.1, h2.2.2) = h4 at R4 Y4 z4 s4
  rcases brk (L := 0) 41 R4 (by omega) (by decide) with ⟨q6, h5, b6, R5, X5⟩ | ⟨q6, b6⟩
  · rw [if_pos q6]
    have b6' : mx_C mm_X4_bracket [.ref 18, .int 41] h4 = _ := b6
    rw [b6']
    refine ⟨h5, ?_, R5, (X5.2.2.1 6 (by decide) (by decide)).trans s4, RdY_t Y4 (RdY_x X5), (X5.2.2.1 5 (by decide) (by decide)).trans z4⟩
    refine Eq.trans (e_X4_readWidth_78 ..) ?_
    exact if_pos rfl
  · rw [if_neg q6]
    have b6' : mx_C mm_X4_bracket [.ref 18, .int 41] h4 = _ := b6
    rw [b6']
    refine RdWO_f ?_ (by omega) R4 Y4 z4
    refine Eq.trans (e_X4_readWidth_78 ..) ?_
    exact if_pos rfl
end RC
