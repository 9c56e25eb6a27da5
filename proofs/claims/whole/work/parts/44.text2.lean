/-! the class's text: splitting it, and what is asked of a token -/
/-- all tokens are written, the last one is the end -/
def TokC (c : Nat → Int) (len N : Nat) (f : Nat → Nat → Int32) (g : Nat → Nat → Option Nat) : Prop := TokJ c len (N + 1) f g ∧ (∀ j, j < N → tB c len j < len) ∧ tB c len N = len ∧ N ≤ 120
theorem rf_wr {o : Option Nat} (h : ∀ i, o = some i → i < 42) : mx_wr (mx_rf (wRf o)) = true := by
  cases o with
  | none => rfl
  | some i =>
    have := h i rfl
    exact decide_eq_true (p := 1000 ≤ 1000 + i ∧ 1000 + i < 1042) (by omega)
theorem X8_addToken_c {c : Nat → Int} {len j b e : Nat} {h : mx_H} (T : TxtC c len h.1) (J : TokJ c len j h.1 h.2.2) (hb : b = tB c len j) (he : e = tE c len b) (hj : j ≤ 120) : ∃ h', mx_C mm_X8_addToken [.ref 1, .int (iI (b)), .int (iI (e))] h = some (none, h') ∧ TokJ c len (j + 1) h'.1 h'.2.2 ∧ (∀ a k, a ≠ 3 → a ≠ 4 → (a ≠ 1 ∨ k ≠ 5) → h'.1 a k = h.1 a k) ∧ h'.2.1 = h.2.1 ∧ ∀ a, a ≠ 5 → h'.2.2 a = h.2.2 a := by
  obtain ⟨J1, J2⟩ := J
  have hle := tB_le (c := c) (len := len) j
  have hte := tE_b (c := c) (len := len) (b := b) (by omega)
  have T' : TxtC c len (mx_u (mx_u h.1 3 j (iI b)) 4 j (iI e)) := by
    obtain ⟨T1, T2, T3, T4⟩ := T
    refine ⟨?_, fun i hi => ?_, T3, T4⟩
    · simp (disch := omega) only [↓reduceIte, ii_lit, ii_add, ii_sub, ii_mul, ii_neg, ii_lt_t, ii_lt_f, ii_le_t, ii_le_f, ii_eq_t, ii_eq_f, ii_in, ii_cl, ii_shr, ii_shl, ii_and1, ii_and255, Option.bind_some, Option.toList, List.cons_append, List.nil_append, Int.toNat_natCast, mu_s, mu_c, mu_k, bI_i0, bI_i1, bI_n, nb_0, nb_1, bI_ft, bI_ff, Bool.false_eq_true, reduceCtorEq, Bool.true_eq_false, decide_true, decide_false, eq_self, Int.reduceAdd, Int.reduceSub, Int.reduceMul, Int.reduceNeg, Int.reduceToNat, tn30, tn31, tn32, tn20, tn21, T1]
    · simp (disch := omega) only [↓reduceIte, ii_lit, ii_add, ii_sub, ii_mul, ii_neg, ii_lt_t, ii_lt_f, ii_le_t, ii_le_f, ii_eq_t, ii_eq_f, ii_in, ii_cl, ii_shr, ii_shl, ii_and1, ii_and255, Option.bind_some, Option.toList, List.cons_append, List.nil_append, Int.toNat_natCast, mu_s, mu_c, mu_k, bI_i0, bI_i1, bI_n, nb_0, nb_1, bI_ft, bI_ff, Bool.false_eq_true, reduceCtorEq, Bool.true_eq_false, decide_true, decide_false, eq_self, Int.reduceAdd, Int.reduceSub, Int.reduceMul, Int.reduceNeg, Int.reduceToNat, tn30, tn31, tn32, tn20, tn21, T2]
  have T3 := T.2.2.1
  refine ⟨((mx_u (mx_u (mx_u h.1 3 j (iI b)) 4 j (iI e)) 1 5 (iI ((j : Int) + 1))), h.2.1, mx_u h.2.2 5 j (wRf (wdx c b e))), ?_, ?_, ?_, rfl, ?_⟩
  · rw [c_X8_addToken, e_X8_addToken_0]
    have fw := X8_findWord_c (h := ((mx_u (mx_u h.1 3 j (iI b)) 4 j (iI e)), h.2.1, h.2.2)) T' (b := b) (e := e) (by omega) (by omega)
    have ew := e_X8_addToken_43 (iI b) (iI e) (iI j) (wRf (wdx c b e)) ((mx_u (mx_u h.1 3 j (iI b)) 4 j (iI e)), h.2.1, h.2.2) (rf_wr (fun i q => wdx_lt q))
    simp (disch := omega) only [↓reduceIte, ii_lit, ii_add, ii_sub, ii_mul, ii_neg, ii_lt_t, ii_lt_f, ii_le_t, ii_le_f, ii_eq_t, ii_eq_f, ii_in, ii_cl, ii_shr, ii_shl, ii_and1, ii_and255, Option.bind_some, Option.toList, List.cons_append, List.nil_append, Int.toNat_natCast, mu_s, mu_c, mu_k, bI_i0, bI_i1, bI_n, nb_0, nb_1, bI_ft, bI_ff, Bool.false_eq_true, reduceCtorEq, Bool.true_eq_false, decide_true, decide_false, eq_self, Int.reduceAdd, Int.reduceSub, Int.reduceMul, Int.reduceNeg, Int.reduceToNat, tn30, tn31, tn32, tn20, tn21, J1, fw, ew, e_X8_addToken_54]
  · refine ⟨?_, fun i hi => ?_⟩
    · dsimp only; rw [mu_s]; rfl
    · dsimp only
      by_cases q : i = j
      · subst q
        subst he
        subst hb
        simp (disch := omega) only [↓reduceIte, ii_lit, ii_add, ii_sub, ii_mul, ii_neg, ii_lt_t, ii_lt_f, ii_le_t, ii_le_f, ii_eq_t, ii_eq_f, ii_in, ii_cl, ii_shr, ii_shl, ii_and1, ii_and255, Option.bind_some, Option.toList, List.cons_append, List.nil_append, Int.toNat_natCast, mu_s, mu_c, mu_k, bI_i0, bI_i1, bI_n, nb_0, nb_1, bI_ft, bI_ff, Bool.false_eq_true, reduceCtorEq, Bool.true_eq_false, decide_true, decide_false, eq_self, Int.reduceAdd, Int.reduceSub, Int.reduceMul, Int.reduceNeg, Int.reduceToNat, tn30, tn31, tn32, tn20, tn21]
        exact ⟨trivial, trivial, trivial⟩
      · have := J2 i (by omega)
        simp (disch := omega) only [↓reduceIte, ii_lit, ii_add, ii_sub, ii_mul, ii_neg, ii_lt_t, ii_lt_f, ii_le_t, ii_le_f, ii_eq_t, ii_eq_f, ii_in, ii_cl, ii_shr, ii_shl, ii_and1, ii_and255, Option.bind_some, Option.toList, List.cons_append, List.nil_append, Int.toNat_natCast, mu_s, mu_c, mu_k, bI_i0, bI_i1, bI_n, nb_0, nb_1, bI_ft, bI_ff, Bool.false_eq_true, reduceCtorEq, Bool.true_eq_false, decide_true, decide_false, eq_self, Int.reduceAdd, Int.reduceSub, Int.reduceMul, Int.reduceNeg, Int.reduceToNat, tn30, tn31, tn32, tn20, tn21, this]
        exact ⟨trivial, trivial, trivial⟩
  · intro a k h1 h2 h3
    dsimp only
    rcases h3 with h3 | h3
    · simp (disch := omega) only [↓reduceIte, ii_lit, ii_add, ii_sub, ii_mul, ii_neg, ii_lt_t, ii_lt_f, ii_le_t, ii_le_f, ii_eq_t, ii_eq_f, ii_in, ii_cl, ii_shr, ii_shl, ii_and1, ii_and255, Option.bind_some, Option.toList, List.cons_append, List.nil_append, Int.toNat_natCast, mu_s, mu_c, mu_k, bI_i0, bI_i1, bI_n, nb_0, nb_1, bI_ft, bI_ff, Bool.false_eq_true, reduceCtorEq, Bool.true_eq_false, decide_true, decide_false, eq_self, Int.reduceAdd, Int.reduceSub, Int.reduceMul, Int.reduceNeg, Int.reduceToNat, tn30, tn31, tn32, tn20, tn21]
    · rw [mu_k _ _ h3]
      simp (disch := omega) only [↓reduceIte, ii_lit, ii_add, ii_sub, ii_mul, ii_neg, ii_lt_t, ii_lt_f, ii_le_t, ii_le_f, ii_eq_t, ii_eq_f, ii_in, ii_cl, ii_shr, ii_shl, ii_and1, ii_and255, Option.bind_some, Option.toList, List.cons_append, List.nil_append, Int.toNat_natCast, mu_s, mu_c, mu_k, bI_i0, bI_i1, bI_n, nb_0, nb_1, bI_ft, bI_ff, Bool.false_eq_true, reduceCtorEq, Bool.true_eq_false, decide_true, decide_false, eq_self, Int.reduceAdd, Int.reduceSub, Int.reduceMul, Int.reduceNeg, Int.reduceToNat, tn30, tn31, tn32, tn20, tn21]
  · intro a ha
    exact mu_f _ _ _ ha
theorem X8_split_46 {c : Nat → Int} {len : Nat} {h : mx_H} (T : TxtC c len h.1) (v2 : Int32) : ∀ (d e : Nat), e + d = len → mx_D (15, mm_X8_split, 46, [.ref 1, .int (iI (e)), .int v2], []) h = mx_D (15, mm_X8_split, 72, [.ref 1, .int (iI (sy c len e)), .int v2], []) h := by
  obtain ⟨T1, T2, T3, T4⟩ := T
  intro d
  induction d with
  | zero =>
    intro e he
    rw [e_X8_split_46, sy_f (by omega)]
    simp (disch := omega) only [↓reduceIte, ii_lit, ii_add, ii_sub, ii_mul, ii_neg, ii_lt_t, ii_lt_f, ii_le_t, ii_le_f, ii_eq_t, ii_eq_f, ii_in, ii_cl, ii_shr, ii_shl, ii_and1, ii_and255, Option.bind_some, Option.toList, List.cons_append, List.nil_append, Int.toNat_natCast, mu_s, mu_c, mu_k, bI_i0, bI_i1, bI_n, nb_0, nb_1, bI_ft, bI_ff, Bool.false_eq_true, reduceCtorEq, Bool.true_eq_false, decide_true, decide_false, eq_self, Int.reduceAdd, Int.reduceSub, Int.reduceMul, Int.reduceNeg, Int.reduceToNat, tn30, tn31, tn32, tn20, tn21, T1]
  | succ d ih =>
    intro e he
    have c1 := T4 e (by omega)
    rw [e_X8_split_46]
    by_cases hs : isSy (c e) = true
    · rw [sy_t ⟨by omega, hs⟩]
      simp (disch := omega) only [↓reduceIte, ii_lit, ii_add, ii_sub, ii_mul, ii_neg, ii_lt_t, ii_lt_f, ii_le_t, ii_le_f, ii_eq_t, ii_eq_f, ii_in, ii_cl, ii_shr, ii_shl, ii_and1, ii_and255, Option.bind_some, Option.toList, List.cons_append, List.nil_append, Int.toNat_natCast, mu_s, mu_c, mu_k, bI_i0, bI_i1, bI_n, nb_0, nb_1, bI_ft, bI_ff, Bool.false_eq_true, reduceCtorEq, Bool.true_eq_false, decide_true, decide_false, eq_self, Int.reduceAdd, Int.reduceSub, Int.reduceMul, Int.reduceNeg, Int.reduceToNat, tn30, tn31, tn32, tn20, tn21, T1, T2, X8_isOfSymbol_c, e_X8_split_63, hs]
      exact ih (e + 1) (by omega)
    · rw [sy_f (fun q => hs q.2)]
      have hs' : isSy (c e) = false := by simpa using hs
      simp (disch := omega) only [↓reduceIte, ii_lit, ii_add, ii_sub, ii_mul, ii_neg, ii_lt_t, ii_lt_f, ii_le_t, ii_le_f, ii_eq_t, ii_eq_f, ii_in, ii_cl, ii_shr, ii_shl, ii_and1, ii_and255, Option.bind_some, Option.toList, List.cons_append, List.nil_append, Int.toNat_natCast, mu_s, mu_c, mu_k, bI_i0, bI_i1, bI_n, nb_0, nb_1, bI_ft, bI_ff, Bool.false_eq_true, reduceCtorEq, Bool.true_eq_false, decide_true, decide_false, eq_self, Int.reduceAdd, Int.reduceSub, Int.reduceMul, Int.reduceNeg, Int.reduceToNat, tn30, tn31, tn32, tn20, tn21, T1, T2, X8_isOfSymbol_c, e_X8_split_63, hs']
theorem X8_split_7 {c : Nat → Int} {len : Nat} : ∀ (d e j : Nat) (v2 : Value) (h : mx_H), len < e + d → e ≤ len → j ≤ e → sk c len e = tB c len j → (∀ i, i < j → tB c len i < len) → TxtC c len h.1 → TokJ c len j h.1 h.2.2 → ∃ h' N, mx_D (15, mm_X8_split, 7, [.ref 1, .int (iI (e)), v2], []) h = some (none, h') ∧ TokC c len N h'.1 h'.2.2 ∧ (∀ a k, a ≠ 3 → a ≠ 4 → (a ≠ 1 ∨ k ≠ 5) → h'.1 a k = h.1 a k) ∧ h'.2.1 = h.2.1 ∧ ∀ a, a ≠ 5 → h'.2.2 a = h.2.2 a := by
  intro d
  induction d with
  | zero => intro e j v2 h h1 h2; omega
  | succ d ih =>
    intro e j v2 h h1 h2 hje hsk hbef T J
    have T3 := T.2.2.1
    rw [e_X8_split_7]
    by_cases he : e = len
    · subst he
      rw [sk_f (by omega)] at hsk
      obtain ⟨h', q1, q2, q3, q4, q5⟩ := X8_addToken_c (b := e) (e := e) T J hsk (tE_len).symm (by omega)
      refine ⟨h', j, ?_, ⟨q2, hbef, hsk.symm, by omega⟩, q3, q4, q5⟩
      simp (disch := omega) only [↓reduceIte, ii_lit, ii_add, ii_sub, ii_mul, ii_neg, ii_lt_t, ii_lt_f, ii_le_t, ii_le_f, ii_eq_t, ii_eq_f, ii_in, ii_cl, ii_shr, ii_shl, ii_and1, ii_and255, Option.bind_some, Option.toList, List.cons_append, List.nil_append, Int.toNat_natCast, mu_s, mu_c, mu_k, bI_i0, bI_i1, bI_n, nb_0, nb_1, bI_ft, bI_ff, Bool.false_eq_true, reduceCtorEq, Bool.true_eq_false, decide_true, decide_false, eq_self, Int.reduceAdd, Int.reduceSub, Int.reduceMul, Int.reduceNeg, Int.reduceToNat, tn30, tn31, tn32, tn20, tn21, T.1, q1, e_X8_split_93]
    · have c1 := T.2.2.2 e (by omega)
      have T1 := T.1
      have T2 := T.2.1
      by_cases hsp : c e = 32
      · rw [sk_t ⟨by omega, hsp⟩] at hsk
        obtain ⟨h', N, q1, q2⟩ := ih (e + 1) j (.int (iI e)) h (by omega) (by omega) (by omega) hsk hbef T J
        refine ⟨h', N, ?_, q2⟩
        simp (disch := omega) only [↓reduceIte, ii_lit, ii_add, ii_sub, ii_mul, ii_neg, ii_lt_t, ii_lt_f, ii_le_t, ii_le_f, ii_eq_t, ii_eq_f, ii_in, ii_cl, ii_shr, ii_shl, ii_and1, ii_and255, Option.bind_some, Option.toList, List.cons_append, List.nil_append, Int.toNat_natCast, mu_s, mu_c, mu_k, bI_i0, bI_i1, bI_n, nb_0, nb_1, bI_ft, bI_ff, Bool.false_eq_true, reduceCtorEq, Bool.true_eq_false, decide_true, decide_false, eq_self, Int.reduceAdd, Int.reduceSub, Int.reduceMul, Int.reduceNeg, Int.reduceToNat, tn30, tn31, tn32, tn20, tn21, T1, T2, hsp]
        exact q1
      · rw [sk_f (fun q => hsp q.2)] at hsk
        have key : ∃ e', e < e' ∧ e' ≤ len ∧ e' = tE c len e ∧ ∀ v2 : Value, mx_D (15, mm_X8_split, 7, [.ref 1, .int (iI (e)), v2], []) h = mx_D (15, mm_X8_split, 72, [.ref 1, .int (iI (e')), .int (iI (e))], []) h := by
          have hb := tE_b (c := c) (len := len) (b := e) (by omega)
          refine ⟨tE c len e, by omega, by omega, rfl, fun v2 => ?_⟩
          rw [e_X8_split_7]
          unfold tE
          rw [if_pos (show e < len by omega)]
          by_cases hs : isSy (c e) = true
          · rw [if_pos hs, sy_t ⟨by omega, hs⟩]
            simp (disch := omega) only [↓reduceIte, ii_lit, ii_add, ii_sub, ii_mul, ii_neg, ii_lt_t, ii_lt_f, ii_le_t, ii_le_f, ii_eq_t, ii_eq_f, ii_in, ii_cl, ii_shr, ii_shl, ii_and1, ii_and255, Option.bind_some, Option.toList, List.cons_append, List.nil_append, Int.toNat_natCast, mu_s, mu_c, mu_k, bI_i0, bI_i1, bI_n, nb_0, nb_1, bI_ft, bI_ff, Bool.false_eq_true, reduceCtorEq, Bool.true_eq_false, decide_true, decide_false, eq_self, Int.reduceAdd, Int.reduceSub, Int.reduceMul, Int.reduceNeg, Int.reduceToNat, tn30, tn31, tn32, tn20, tn21, T1, T2, X8_isOfSymbol_c, e_X8_split_43, hs]
            exact X8_split_46 T _ (len - (e + 1)) (e + 1) (by omega)
          · rw [if_neg hs]
            have hs' : isSy (c e) = false := by simpa using hs
            simp (disch := omega) only [↓reduceIte, ii_lit, ii_add, ii_sub, ii_mul, ii_neg, ii_lt_t, ii_lt_f, ii_le_t, ii_le_f, ii_eq_t, ii_eq_f, ii_in, ii_cl, ii_shr, ii_shl, ii_and1, ii_and255, Option.bind_some, Option.toList, List.cons_append, List.nil_append, Int.toNat_natCast, mu_s, mu_c, mu_k, bI_i0, bI_i1, bI_n, nb_0, nb_1, bI_ft, bI_ff, Bool.false_eq_true, reduceCtorEq, Bool.true_eq_false, decide_true, decide_false, eq_self, Int.reduceAdd, Int.reduceSub, Int.reduceMul, Int.reduceNeg, Int.reduceToNat, tn30, tn31, tn32, tn20, tn21, T1, T2, X8_isOfSymbol_c, e_X8_split_43, hs']
            rfl
        obtain ⟨e', k1, k2, k3, k4⟩ := key
        obtain ⟨h1', q1, q2, q3, q4, q5⟩ := X8_addToken_c (b := e) (e := e') T J hsk k3 (by omega)
        have T' : TxtC c len h1'.1 := by
          obtain ⟨T1, T2, T3, T4⟩ := T
          refine ⟨?_, fun i hi => ?_, T3, T4⟩
          · rw [q3 1 1 (by decide) (by decide) (by decide)]; exact T1
          · rw [q3 2 i (by decide) (by decide) (Or.inl (by decide))]; exact T2 i hi
        obtain ⟨h', N, p1, p2, p3, p4, p5⟩ := ih e' (j + 1) (.int (iI e)) h1' (by omega) k2 (by omega) (by show sk c len e' = sk c len (tE c len (tB c len j)); rw [← hsk, k3]) (fun i hi => by
          by_cases q : i = j
          · rw [q, ← hsk]; omega
          · exact hbef i (by omega)) T' q2
        refine ⟨h', N, ?_, p2, fun a k z1 z2 z3 => (p3 a k z1 z2 z3).trans (q3 a k z1 z2 z3), p4.trans q4, fun a z => (p5 a z).trans (q5 a z)⟩
        rw [← e_X8_split_7, k4, e_X8_split_72, q1]
        exact (e_X8_split_78 _ _ _).trans p1
theorem X8_split_c {c : Nat → Int} {len : Nat} {h : mx_H} (T : TxtC c len h.1) : ∃ h' N, mx_C mm_X8_split [.ref 1] h = some (none, h') ∧ TokC c len N h'.1 h'.2.2 ∧ (∀ a k, a ≠ 3 → a ≠ 4 → (a ≠ 1 ∨ k ≠ 5) → h'.1 a k = h.1 a k) ∧ h'.2.1 = h.2.1 ∧ ∀ a, a ≠ 5 → h'.2.2 a = h.2.2 a := by
  have T' : TxtC c len (mx_u h.1 1 5 0) := by
    obtain ⟨T1, T2, T3, T4⟩ := T
    refine ⟨?_, fun i hi => ?_, T3, T4⟩
    · rw [mu_k _ _ (by decide)]; exact T1
    · rw [mu_c _ _ _ _ (by decide)]; exact T2 i hi
  obtain ⟨h', N, p1, p2, p3, p4, p5⟩ := X8_split_7 (c := c) (len := len) (len + 1) 0 0 mx_junk (mx_u h.1 1 5 0, h.2.1, h.2.2) (by omega) (by omega) (by omega) rfl (fun i hi => by omega) T' ⟨by dsimp only; rw [mu_s]; rfl, fun i hi => by omega⟩
  refine ⟨h', N, ?_, p2, fun a k z1 z2 z3 => ?_, p4, p5⟩
  · rw [c_X8_split, e_X8_split_0]; exact p1
  · rw [p3 a k z1 z2 z3]
    show mx_u h.1 1 5 0 a k = _
    rcases z3 with z3 | z3
    · rw [mu_c _ _ _ _ z3]
    · rw [mu_k _ _ z3]
