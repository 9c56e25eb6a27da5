/-! the class's reader: its state, and its small methods -/
def LetC : List (List Nat × Nat) → (Nat → Nat → Int32) → Prop
  | [], _ => True
  | p :: r, f => f 20 r.length = iI (beL p.1) ∧ f 21 r.length = iI (p.2 : Int) ∧ lets4 p.1 ∧ LetC r f
def RdC (c : Nat → Int) (len N : Nat) (s : Sc) (lets : List (List Nat × Nat)) (j n : Nat) (ts : Nat → Tm) (h : mx_H) : Prop := TxtC c len h.1 ∧ TokC c len N h.1 h.2.2 ∧ ScopeC s h.1 ∧ TermC n ts h.1 h.2.2 ∧ h.1 18 3 = iI (j : Int) ∧ h.1 18 11 = iI (lets.length : Int) ∧ LetC lets h.1
def RdX (L d : Nat) (h h' : mx_H) : Prop := (∀ a k, a ≠ 6 → a ≠ 8 → a ≠ 9 → a ≠ 10 → a ≠ 18 → a ≠ 19 → a ≠ 20 → a ≠ 21 → h'.1 a k = h.1 a k) ∧ (∀ k, k ≠ 4 → h'.1 6 k = h.1 6 k) ∧ (∀ k, k ≠ 3 → k ≠ 4 → h'.1 18 k = h.1 18 k) ∧ (∀ k, k < 3 * L → h'.1 19 k = h.1 19 k) ∧ (∀ k, k < d → h'.1 20 k = h.1 20 k ∧ h'.1 21 k = h.1 21 k) ∧ h'.2.1 = h.2.1 ∧ ∀ a, a ≠ 7 → h'.2.2 a = h.2.2 a
theorem RdX_r {L d : Nat} {h : mx_H} : RdX L d h h := ⟨fun _ _ _ _ _ _ _ _ _ _ => rfl, fun _ _ => rfl, fun _ _ _ => rfl, fun _ _ => rfl, fun _ _ => ⟨rfl, rfl⟩, rfl, fun _ _ => rfl⟩
theorem RdX_t {L L' d d' : Nat} {h h1 h2 : mx_H} (hL : L ≤ L') (hd : d ≤ d') (a : RdX L d h h1) (b : RdX L' d' h1 h2) : RdX L d h h2 := by
  obtain ⟨a1, a2, a3, a4, a5, a6, a7⟩ := a
  obtain ⟨b1, b2, b3, b4, b5, b6, b7⟩ := b
  exact ⟨fun x k p1 p2 p3 p4 p5 p6 p7 p8 => by rw [b1 x k p1 p2 p3 p4 p5 p6 p7 p8, a1 x k p1 p2 p3 p4 p5 p6 p7 p8], fun k z => by rw [b2 k z, a2 k z], fun k y z => by rw [b3 k y z, a3 k y z], fun k z => by rw [b4 k (by omega), a4 k z], fun k z => by rw [(b5 k (by omega)).1, (b5 k (by omega)).2]; exact a5 k z, by rw [b6, a6], fun x z => by rw [b7 x z, a7 x z]⟩
theorem RdX_u {L d : Nat} {h : mx_H} {x : Int32} {a k0 : Nat} (H : (a = 18 ∧ (k0 = 3 ∨ k0 = 4)) ∨ (a = 19 ∧ 3 * L ≤ k0)) : RdX L d h (mx_u h.1 a k0 x, h.2.1, h.2.2) := by
  refine ⟨fun b k _ _ _ _ p q _ _ => ?_, fun k _ => ?_, fun k _ _ => ?_, fun k _ => ?_, fun k _ => ⟨?_, ?_⟩, rfl, fun _ _ => rfl⟩
  all_goals
    dsimp only [mx_u]
    rw [if_neg (by omega)]
theorem RdX_3 {L d : Nat} {h : mx_H} {x : Int32} : RdX L d h (mx_u h.1 18 3 x, h.2.1, h.2.2) := RdX_u (by omega)
theorem RdX_4 {L d : Nat} {h : mx_H} {x : Int32} : RdX L d h (mx_u h.1 18 4 x, h.2.1, h.2.2) := RdX_u (by omega)
theorem RdX_19 {L d : Nat} {h : mx_H} {x : Int32} {k0 : Nat} (hk : 3 * L ≤ k0) : RdX L d h (mx_u h.1 19 k0 x, h.2.1, h.2.2) := RdX_u (by omega)
theorem LetC_x {L d : Nat} {h h' : mx_H} (X : RdX L d h h') : ∀ lets : List (List Nat × Nat), lets.length ≤ d → LetC lets h.1 → LetC lets h'.1 := by
  intro lets
  induction lets with
  | nil => intro _ _; trivial
  | cons p r ih =>
    intro hl H
    rw [List.length_cons] at hl
    have x := X.2.2.2.2.1 r.length (by omega)
    unfold LetC at H ⊢
    rw [x.1, x.2]
    exact ⟨H.1, H.2.1, H.2.2.1, ih (by omega) H.2.2.2⟩
theorem TxtC_e {c : Nat → Int} {len : Nat} {f f' : Nat → Nat → Int32} (h1 : f' 1 1 = f 1 1) (h2 : ∀ k, f' 2 k = f 2 k) (T : TxtC c len f) : TxtC c len f' := by
  obtain ⟨a, b, d⟩ := T
  exact ⟨by rw [h1]; exact a, fun i hi => by rw [h2]; exact b i hi, d⟩
theorem TokC_e {c : Nat → Int} {len N : Nat} {f f' : Nat → Nat → Int32} {g g' : Nat → Nat → Option Nat} (h1 : f' 1 5 = f 1 5) (h2 : ∀ k, f' 3 k = f 3 k) (h3 : ∀ k, f' 4 k = f 4 k) (h4 : g' 5 = g 5) (T : TokC c len N f g) : TokC c len N f' g' := by
  obtain ⟨⟨a, b⟩, d⟩ := T
  exact ⟨⟨by rw [h1]; exact a, fun i hi => by rw [h2, h3, h4]; exact b i hi⟩, d⟩
theorem ScopeC_e {s : Sc} {f f' : Nat → Nat → Int32} (h : ∀ a k, 11 ≤ a → a ≤ 17 → f' a k = f a k) (S : ScopeC s f) : ScopeC s f' := by
  obtain ⟨a1, a2, a3, a4, a5, a6, a7⟩ := S
  exact ⟨by rw [h _ _ (by decide) (by decide)]; exact a1, by rw [h _ _ (by decide) (by decide)]; exact a2, by rw [h _ _ (by decide) (by decide)]; exact a3, by rw [h _ _ (by decide) (by decide)]; exact a4, fun i hi => by rw [h _ _ (by decide) (by decide), h _ _ (by decide) (by decide)]; exact a5 i hi, fun i hi => by rw [h _ _ (by decide) (by decide)]; exact a6 i hi, fun i hi => by rw [h _ _ (by decide) (by decide), h _ _ (by decide) (by decide), h _ _ (by decide) (by decide)]; exact a7 i hi⟩
theorem TermC_e {n : Nat} {ts : Nat → Tm} {f f' : Nat → Nat → Int32} {g g' : Nat → Nat → Option Nat} (h1 : f' 6 4 = f 6 4) (h2 : ∀ a k, 8 ≤ a → a ≤ 10 → f' a k = f a k) (h3 : g' 7 = g 7) (T : TermC n ts f g) : TermC n ts f' g' := by
  obtain ⟨a1, a2, a3⟩ := T
  refine ⟨by rw [h1]; exact a1, a2, fun t ht => ?_⟩
  obtain ⟨⟨b1, b2, b3, b4, b5, b6, b7⟩, d⟩ := a3 t ht
  exact ⟨⟨by rw [h3]; exact b1, by rw [h2 _ _ (by decide) (by decide)]; exact b2, by rw [h2 _ _ (by decide) (by decide)]; exact b3, by rw [h2 _ _ (by decide) (by decide)]; exact b4, by rw [h2 _ _ (by decide) (by decide)]; exact b5, by rw [h2 _ _ (by decide) (by decide)]; exact b6, by rw [h2 _ _ (by decide) (by decide)]; exact b7⟩, d⟩
section RC
variable {c : Nat → Int} {len N : Nat} {s : Sc}
theorem RdC_x {lets : List (List Nat × Nat)} {j j' n n' L d : Nat} {ts ts' : Nat → Tm} {h h' : mx_H} (R : RdC c len N s lets j n ts h) (X : RdX L d h h') (hd : lets.length ≤ d) (T : TermC n' ts' h'.1 h'.2.2) (hj : h'.1 18 3 = iI (j' : Int)) : RdC c len N s lets j' n' ts' h' := by
  obtain ⟨r1, r2, r3, r4, r5, r6, r7⟩ := R
  obtain ⟨x1, x2, x3, x4, x5, x6, x7⟩ := id X
  have q : ∀ a k, a ≤ 5 ∨ (11 ≤ a ∧ a ≤ 17) → h'.1 a k = h.1 a k := fun a k z => x1 a k (by omega) (by omega) (by omega) (by omega) (by omega) (by omega) (by omega) (by omega)
  exact ⟨TxtC_e (q _ _ (by decide)) (fun k => q _ _ (by decide)) r1, TokC_e (q _ _ (by decide)) (fun k => q _ _ (by decide)) (fun k => q _ _ (by decide)) (x7 5 (by decide)) r2, ScopeC_e (fun a k p1 p2 => q a k (by omega)) r3, T, hj, by rw [x3 11 (by decide) (by decide)]; exact r6, LetC_x X lets hd r7⟩
theorem TermC_18 {n : Nat} {ts : Nat → Tm} {h : mx_H} {a k : Nat} {x : Int32} (ha : 11 ≤ a) (T : TermC n ts h.1 h.2.2) : TermC n ts (mx_u h.1 a k x) h.2.2 := TermC_e (mu_c _ _ _ _ (by omega)) (fun b i p q => mu_c _ _ _ _ (by omega)) rfl T
theorem RdC_3 {lets : List (List Nat × Nat)} {j n : Nat} {ts : Nat → Tm} {h : mx_H} (j' : Nat) (R : RdC c len N s lets j n ts h) : RdC c len N s lets j' n ts (mx_u h.1 18 3 (iI (j' : Int)), h.2.1, h.2.2) := RdC_x (L := 0) (d := lets.length) R RdX_3 (Nat.le_refl _) (TermC_18 (by decide) R.2.2.2.1) (by dsimp only; exact mu_s _ _ _ _)
theorem X4_failAt_c {x : Int32} (h : mx_H) : mx_C mm_X4_failAt [.ref 18, .int x] h = some (some (.int (iI (0))), (mx_u h.1 18 4 x, h.2.1, h.2.2)) := by rw [c_X4_failAt, e_X4_failAt_0]; rfl
theorem X4_noTermAt_c {x : Int32} (h : mx_H) : mx_C mm_X4_noTermAt [.ref 18, .int x] h = some (some (.int (iI (-1))), (mx_u h.1 18 4 x, h.2.1, h.2.2)) := by rw [c_X4_noTermAt, e_X4_noTermAt_0]; rfl
variable {lets : List (List Nat × Nat)} {j n : Nat} {ts : Nat → Tm} {h : mx_H}
theorem X4_bracket_t {ch : Int} (R : RdC c len N s lets j n ts h) (hj : j < 2000) (hc : i32 ch) (q : jO c len j ch = true) : mx_C mm_X4_bracket [.ref 18, .int (iI (ch))] h = some (some (.int (iI (1))), (mx_u h.1 18 3 (iI ((j + 1 : Nat) : Int)), h.2.1, h.2.2)) := by
  obtain ⟨r1, r2, r3, r4, r5, r6, r7⟩ := R
  rw [c_X4_bracket, e_X4_bracket_0, r5, X8_isBracket_c r2 r1 hj hc]
  have q' : decide (tB c len j < len ∧ c (tB c len j) = ch) = true := q
  simp (disch := omega) only [↓reduceIte, ii_lit, ii_add, ii_sub, ii_mul, ii_neg, ii_lt_t, ii_lt_f, ii_le_t, ii_le_f, ii_eq_t, ii_eq_f, ii_in, ii_cl, ii_shr, ii_shl, ii_and1, ii_and255, Option.bind_some, Option.toList, List.cons_append, List.nil_append, Int.toNat_natCast, mu_s, mu_c, mu_k, bI_i0, bI_i1, bI_n, nb_0, nb_1, bI_ft, bI_ff, Bool.false_eq_true, reduceCtorEq, Bool.true_eq_false, decide_true, decide_false, eq_self, Int.reduceAdd, Int.reduceSub, Int.reduceMul, Int.reduceNeg, Int.reduceToNat, tn30, tn31, tn32, tn20, tn21, e_X4_bracket_12, q', r5]
  rfl
theorem X4_bracket_f {ch : Int} (R : RdC c len N s lets j n ts h) (hj : j < 2000) (hc : i32 ch) (q : ¬ jO c len j ch = true) : mx_C mm_X4_bracket [.ref 18, .int (iI (ch))] h = some (some (.int (iI (0))), (mx_u h.1 18 4 (iI (j : Int)), h.2.1, h.2.2)) := by
  obtain ⟨r1, r2, r3, r4, r5, r6, r7⟩ := R
  rw [c_X4_bracket, e_X4_bracket_0, r5, X8_isBracket_c r2 r1 hj hc]
  have q' : decide (tB c len j < len ∧ c (tB c len j) = ch) = false := Bool.not_eq_true _ ▸ q
  simp (disch := omega) only [↓reduceIte, ii_lit, ii_add, ii_sub, ii_mul, ii_neg, ii_lt_t, ii_lt_f, ii_le_t, ii_le_f, ii_eq_t, ii_eq_f, ii_in, ii_cl, ii_shr, ii_shl, ii_and1, ii_and255, Option.bind_some, Option.toList, List.cons_append, List.nil_append, Int.toNat_natCast, mu_s, mu_c, mu_k, bI_i0, bI_i1, bI_n, nb_0, nb_1, bI_ft, bI_ff, Bool.false_eq_true, reduceCtorEq, Bool.true_eq_false, decide_true, decide_false, eq_self, Int.reduceAdd, Int.reduceSub, Int.reduceMul, Int.reduceNeg, Int.reduceToNat, tn30, tn31, tn32, tn20, tn21, e_X4_bracket_12, q', r5, X4_failAt_c, e_X4_bracket_23]
theorem rf_is {o : Option Nat} {x : Nat} (w : Nat) (hx : x = 1000 + w) : ((mx_rf (wRf o) : Value) = .ref x) = (o = some w) := by
  cases o with
  | none => exact propext ⟨fun q => (by cases q), fun q => (by cases q)⟩
  | some i => exact propext ⟨fun q => (by injection q with q; subst hx; exact congrArg some (Nat.add_left_cancel q)), fun q => (by injection q with q; subst q; subst hx; rfl)⟩
theorem jW_lt {w : Nat} (q : jW c len j = some w) : w < 42 := wdx_lt q
theorem rf_wj : mx_wr (mx_rf (wRf (jW c len j))) = true := rf_wr (fun i q => wdx_lt q)
theorem X4_word_t {w : Nat} (R : RdC c len N s lets j n ts h) (hj : j < 2000) (hw : w < 42) (q : jW c len j = some w) : mx_C mm_X4_word [.ref 18, .ref (1000 + w)] h = some (some (.int (iI (1))), (mx_u h.1 18 3 (iI ((j + 1 : Nat) : Int)), h.2.1, h.2.2)) := by
  obtain ⟨r1, r2, r3, r4, r5, r6, r7⟩ := R
  refine Eq.trans (c_X4_word (some (1000 + w)) h) ?_
  rw [e_X4_word_0, r5, X8_wordAt_c r2 hj]
  refine Eq.trans (e_X4_word_11 (some (1000 + w)) (wRf (jW c len j)) h rf_wj (decide_eq_true (p := 1000 ≤ 1000 + w ∧ 1000 + w < 1042) (by omega))) ?_
  rw [q, if_pos (show (mx_rf (wRf (some w)) : Value) = mx_rf (some (1000 + w)) from rfl), r5]
  simp (disch := omega) only [↓reduceIte, ii_lit, ii_add, ii_sub, ii_mul, ii_neg, ii_lt_t, ii_lt_f, ii_le_t, ii_le_f, ii_eq_t, ii_eq_f, ii_in, ii_cl, ii_shr, ii_shl, ii_and1, ii_and255, Option.bind_some, Option.toList, List.cons_append, List.nil_append, Int.toNat_natCast, mu_s, mu_c, mu_k, bI_i0, bI_i1, bI_n, nb_0, nb_1, bI_ft, bI_ff, Bool.false_eq_true, reduceCtorEq, Bool.true_eq_false, decide_true, decide_false, eq_self, Int.reduceAdd, Int.reduceSub, Int.reduceMul, Int.reduceNeg, Int.reduceToNat, tn30, tn31, tn32, tn20, tn21]
  rfl
theorem X4_word_f {w : Nat} (R : RdC c len N s lets j n ts h) (hj : j < 2000) (hw : w < 42) (q : ¬ jW c len j = some w) : mx_C mm_X4_word [.ref 18, .ref (1000 + w)] h = some (some (.int (iI (0))), (mx_u h.1 18 4 (iI (j : Int)), h.2.1, h.2.2)) := by
  obtain ⟨r1, r2, r3, r4, r5, r6, r7⟩ := R
  refine Eq.trans (c_X4_word (some (1000 + w)) h) ?_
  rw [e_X4_word_0, r5, X8_wordAt_c r2 hj]
  refine Eq.trans (e_X4_word_11 (some (1000 + w)) (wRf (jW c len j)) h rf_wj (decide_eq_true (p := 1000 ≤ 1000 + w ∧ 1000 + w < 1042) (by omega))) ?_
  rw [if_neg (c := (mx_rf (wRf (jW c len j)) : Value) = mx_rf (some (1000 + w))) (fun z => q ((rf_is w rfl).mp z)), r5, X4_failAt_c]
  exact (e_X4_word_23 (some (1000 + w)) _ _).trans (if_pos rfl)
theorem X4_meaningOf_7 {L : List Nat} (R : RdC c len N s lets j n ts h) (B : ScB s) (hL : lets4 L) (hl : lets.length ≤ 8) : ∀ r : List (List Nat × Nat), r.length ≤ lets.length → LetC r h.1 → mx_D (2, mm_X4_meaningOf, 7, [.ref 18, .int (iI (beL L)), .int (iI ((r.length : Int) - 1))], []) h = some (some (.int (iI (mng s r L))), h) := by
  intro r
  have bL := beL_b hL
  induction r with
  | nil =>
    intro _ _
    rw [e_X4_meaningOf_7]
    simp (disch := omega) only [↓reduceIte, ii_lit, ii_add, ii_sub, ii_mul, ii_neg, ii_lt_t, ii_lt_f, ii_le_t, ii_le_f, ii_eq_t, ii_eq_f, ii_in, ii_cl, ii_shr, ii_shl, ii_and1, ii_and255, Option.bind_some, Option.toList, List.cons_append, List.nil_append, Int.toNat_natCast, mu_s, mu_c, mu_k, bI_i0, bI_i1, bI_n, nb_0, nb_1, bI_ft, bI_ff, Bool.false_eq_true, reduceCtorEq, Bool.true_eq_false, decide_true, decide_false, eq_self, Int.reduceAdd, Int.reduceSub, Int.reduceMul, Int.reduceNeg, Int.reduceToNat, tn30, tn31, tn32, tn20, tn21, List.length_nil, Int.natCast_zero, X5_find_c R.2.2.1 B hL, e_X4_meaningOf_42]
    rfl
  | cons p r ih =>
    intro hr H
    rw [List.length_cons] at hr
    unfold LetC at H
    have bp := beL_b H.2.2.1
    have e1 : (((p :: r).length : Int) - 1) = (r.length : Int) := by rw [List.length_cons]; omega
    rw [e1, e_X4_meaningOf_7]
    unfold mng
    by_cases q : p.1 = L
    · simp (disch := omega) only [↓reduceIte, ii_lit, ii_add, ii_sub, ii_mul, ii_neg, ii_lt_t, ii_lt_f, ii_le_t, ii_le_f, ii_eq_t, ii_eq_f, ii_in, ii_cl, ii_shr, ii_shl, ii_and1, ii_and255, Option.bind_some, Option.toList, List.cons_append, List.nil_append, Int.toNat_natCast, mu_s, mu_c, mu_k, bI_i0, bI_i1, bI_n, nb_0, nb_1, bI_ft, bI_ff, Bool.false_eq_true, reduceCtorEq, Bool.true_eq_false, decide_true, decide_false, eq_self, Int.reduceAdd, Int.reduceSub, Int.reduceMul, Int.reduceNeg, Int.reduceToNat, tn30, tn31, tn32, tn20, tn21, H.1, H.2.1, q]
    · have nq : beL p.1 ≠ beL L := fun z => q (beL_inj H.2.2.1 hL z)
      simp (disch := omega) only [↓reduceIte, ii_lit, ii_add, ii_sub, ii_mul, ii_neg, ii_lt_t, ii_lt_f, ii_le_t, ii_le_f, ii_eq_t, ii_eq_f, ii_in, ii_cl, ii_shr, ii_shl, ii_and1, ii_and255, Option.bind_some, Option.toList, List.cons_append, List.nil_append, Int.toNat_natCast, mu_s, mu_c, mu_k, bI_i0, bI_i1, bI_n, nb_0, nb_1, bI_ft, bI_ff, Bool.false_eq_true, reduceCtorEq, Bool.true_eq_false, decide_true, decide_false, eq_self, Int.reduceAdd, Int.reduceSub, Int.reduceMul, Int.reduceNeg, Int.reduceToNat, tn30, tn31, tn32, tn20, tn21, H.1, H.2.1, q]
      have := ih (by omega) H.2.2.2
      rw [← Int.sub_eq_add_neg]
      exact this
theorem X4_meaningOf_c {L : List Nat} (R : RdC c len N s lets j n ts h) (B : ScB s) (hL : lets4 L) (hl : lets.length ≤ 8) : mx_C mm_X4_meaningOf [.ref 18, .int (iI (beL L))] h = some (some (.int (iI (mng s lets L))), h) := by
  rw [c_X4_meaningOf, e_X4_meaningOf_0, R.2.2.2.2.2.1]
  simp (disch := omega) only [↓reduceIte, ii_lit, ii_add, ii_sub, ii_mul, ii_neg, ii_lt_t, ii_lt_f, ii_le_t, ii_le_f, ii_eq_t, ii_eq_f, ii_in, ii_cl, ii_shr, ii_shl, ii_and1, ii_and255, Option.bind_some, Option.toList, List.cons_append, List.nil_append, Int.toNat_natCast, mu_s, mu_c, mu_k, bI_i0, bI_i1, bI_n, nb_0, nb_1, bI_ft, bI_ff, Bool.false_eq_true, reduceCtorEq, Bool.true_eq_false, decide_true, decide_false, eq_self, Int.reduceAdd, Int.reduceSub, Int.reduceMul, Int.reduceNeg, Int.reduceToNat, tn30, tn31, tn32, tn20, tn21]
  exact X4_meaningOf_7 R B hL hl lets (Nat.le_refl _) R.2.2.2.2.2.2
end RC
