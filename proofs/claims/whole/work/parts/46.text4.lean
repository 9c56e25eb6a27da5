section TK3
variable {c : Nat → Int} {len N : Nat} {h : mx_H}
theorem X8_widthAt_63 {j : Nat} (K : TokC c len N h.1 h.2.2) (T : TxtC c len h.1) (hj : j ≤ N) (w : Int) : ∀ (d i : Nat), i + d = tE c len (tB c len j) → mx_D (3, mm_X8_widthAt, 63, [.ref 1, .int (iI (j)), .int (iI (w)), .int (iI (i))], []) h = some (some (.int (iI (if bitO c d i = true then w else 0))), h) := by
  have hb := tE_b (c := c) (len := len) (tB_le (c := c) (len := len) j)
  obtain ⟨T1, T2, T3, T4⟩ := T
  have hN := K.2.2.2
  have t := tok_le K hj
  intro d
  induction d with
  | zero =>
    intro i hi
    rw [e_X8_widthAt_63]
    simp (disch := omega) only [↓reduceIte, ii_lit, ii_add, ii_sub, ii_mul, ii_neg, ii_lt_t, ii_lt_f, ii_le_t, ii_le_f, ii_eq_t, ii_eq_f, ii_in, ii_cl, ii_shr, ii_shl, ii_and1, ii_and255, Option.bind_some, Option.toList, List.cons_append, List.nil_append, Int.toNat_natCast, mu_s, mu_c, mu_k, bI_i0, bI_i1, bI_n, nb_0, nb_1, bI_ft, bI_ff, Bool.false_eq_true, reduceCtorEq, Bool.true_eq_false, decide_true, decide_false, eq_self, Int.reduceAdd, Int.reduceSub, Int.reduceMul, Int.reduceNeg, Int.reduceToNat, tn30, tn31, tn32, tn20, tn21, t]
    rfl
  | succ d ih =>
    intro i hi
    have c1 := T4 i (by omega)
    rw [e_X8_widthAt_63]
    unfold bitO
    by_cases q1 : c i = 48
    · simp (disch := omega) only [↓reduceIte, ii_lit, ii_add, ii_sub, ii_mul, ii_neg, ii_lt_t, ii_lt_f, ii_le_t, ii_le_f, ii_eq_t, ii_eq_f, ii_in, ii_cl, ii_shr, ii_shl, ii_and1, ii_and255, Option.bind_some, Option.toList, List.cons_append, List.nil_append, Int.toNat_natCast, mu_s, mu_c, mu_k, bI_i0, bI_i1, bI_n, nb_0, nb_1, bI_ft, bI_ff, Bool.false_eq_true, reduceCtorEq, Bool.true_eq_false, decide_true, decide_false, eq_self, Int.reduceAdd, Int.reduceSub, Int.reduceMul, Int.reduceNeg, Int.reduceToNat, tn30, tn31, tn32, tn20, tn21, t, T2, e_X8_widthAt_97, q1, true_or]
      exact ih (i + 1) (by omega)
    · by_cases q2 : c i = 49
      · simp (disch := omega) only [↓reduceIte, ii_lit, ii_add, ii_sub, ii_mul, ii_neg, ii_lt_t, ii_lt_f, ii_le_t, ii_le_f, ii_eq_t, ii_eq_f, ii_in, ii_cl, ii_shr, ii_shl, ii_and1, ii_and255, Option.bind_some, Option.toList, List.cons_append, List.nil_append, Int.toNat_natCast, mu_s, mu_c, mu_k, bI_i0, bI_i1, bI_n, nb_0, nb_1, bI_ft, bI_ff, Bool.false_eq_true, reduceCtorEq, Bool.true_eq_false, decide_true, decide_false, eq_self, Int.reduceAdd, Int.reduceSub, Int.reduceMul, Int.reduceNeg, Int.reduceToNat, tn30, tn31, tn32, tn20, tn21, t, T2, e_X8_widthAt_97, q2, or_true]
        exact ih (i + 1) (by omega)
      · simp (disch := omega) only [↓reduceIte, ii_lit, ii_add, ii_sub, ii_mul, ii_neg, ii_lt_t, ii_lt_f, ii_le_t, ii_le_f, ii_eq_t, ii_eq_f, ii_in, ii_cl, ii_shr, ii_shl, ii_and1, ii_and255, Option.bind_some, Option.toList, List.cons_append, List.nil_append, Int.toNat_natCast, mu_s, mu_c, mu_k, bI_i0, bI_i1, bI_n, nb_0, nb_1, bI_ft, bI_ff, Bool.false_eq_true, reduceCtorEq, Bool.true_eq_false, decide_true, decide_false, eq_self, Int.reduceAdd, Int.reduceSub, Int.reduceMul, Int.reduceNeg, Int.reduceToNat, tn30, tn31, tn32, tn20, tn21, t, T2, e_X8_widthAt_97, q1, q2, or_self]
theorem X8_widthAt_c {j : Nat} (K : TokC c len N h.1 h.2.2) (T : TxtC c len h.1) (hj : j < 2000) : mx_C mm_X8_widthAt [.ref 1, .int (iI (j))] h = some (some (.int (iI ((widA c (tB c len j) (tE c len (tB c len j)) : Int)))), h) := by
  have hb := tE_b (c := c) (len := len) (tB_le (c := c) (len := len) j)
  have hN := K.2.2.2
  rw [c_X8_widthAt, e_X8_widthAt_0, X8_sizeOf_c K T.2.2.1 hj]
  unfold widA
  have T3 := T.2.2.1
  by_cases q1 : tE c len (tB c len j) - tB c len j < 3
  · rw [if_neg (by omega)]
    simp (disch := omega) only [↓reduceIte, ii_lit, ii_add, ii_sub, ii_mul, ii_neg, ii_lt_t, ii_lt_f, ii_le_t, ii_le_f, ii_eq_t, ii_eq_f, ii_in, ii_cl, ii_shr, ii_shl, ii_and1, ii_and255, Option.bind_some, Option.toList, List.cons_append, List.nil_append, Int.toNat_natCast, mu_s, mu_c, mu_k, bI_i0, bI_i1, bI_n, nb_0, nb_1, bI_ft, bI_ff, Bool.false_eq_true, reduceCtorEq, Bool.true_eq_false, decide_true, decide_false, eq_self, Int.reduceAdd, Int.reduceSub, Int.reduceMul, Int.reduceNeg, Int.reduceToNat, tn30, tn31, tn32, tn20, tn21, e_X8_widthAt_5, e_X8_widthAt_52]
    rfl
  by_cases q2 : 6 < tE c len (tB c len j) - tB c len j
  · rw [if_neg (by omega)]
    simp (disch := omega) only [↓reduceIte, ii_lit, ii_add, ii_sub, ii_mul, ii_neg, ii_lt_t, ii_lt_f, ii_le_t, ii_le_f, ii_eq_t, ii_eq_f, ii_in, ii_cl, ii_shr, ii_shl, ii_and1, ii_and255, Option.bind_some, Option.toList, List.cons_append, List.nil_append, Int.toNat_natCast, mu_s, mu_c, mu_k, bI_i0, bI_i1, bI_n, nb_0, nb_1, bI_ft, bI_ff, Bool.false_eq_true, reduceCtorEq, Bool.true_eq_false, decide_true, decide_false, eq_self, Int.reduceAdd, Int.reduceSub, Int.reduceMul, Int.reduceNeg, Int.reduceToNat, tn30, tn31, tn32, tn20, tn21, e_X8_widthAt_5, e_X8_widthAt_52]
    rfl
  have hj' : j ≤ N := by
    apply Decidable.byContradiction
    intro z
    have e := tB_ge K.2.2.1 j (by omega)
    rw [e, tE_len] at q1
    omega
  have t := tok_le K hj'
  have c1 := T.2.2.2 (tB c len j) (by omega)
  have c2 := T.2.2.2 (tB c len j + 1) (by omega)
  have T2 := T.2.1
  have e1 : ((tB c len j : Int) + 1).toNat = tB c len j + 1 := by omega
  by_cases q3 : c (tB c len j) = 35
  · by_cases q4 : c (tB c len j + 1) = 98
    · have L := X8_widthAt_63 K T hj' ((tE c len (tB c len j) - tB c len j : Nat) - 2) (tE c len (tB c len j) - tB c len j - 2) (tB c len j + 2) (by omega)
      simp (disch := omega) only [↓reduceIte, ii_lit, ii_add, ii_sub, ii_mul, ii_neg, ii_lt_t, ii_lt_f, ii_le_t, ii_le_f, ii_eq_t, ii_eq_f, ii_in, ii_cl, ii_shr, ii_shl, ii_and1, ii_and255, Option.bind_some, Option.toList, List.cons_append, List.nil_append, Int.toNat_natCast, mu_s, mu_c, mu_k, bI_i0, bI_i1, bI_n, nb_0, nb_1, bI_ft, bI_ff, Bool.false_eq_true, reduceCtorEq, Bool.true_eq_false, decide_true, decide_false, eq_self, Int.reduceAdd, Int.reduceSub, Int.reduceMul, Int.reduceNeg, Int.reduceToNat, tn30, tn31, tn32, tn20, tn21, e_X8_widthAt_5, t, T2, q3, q4, e1]
      refine L.trans ?_
      by_cases q5 : bitO c (tE c len (tB c len j) - tB c len j - 2) (tB c len j + 2) = true
      · rw [if_pos q5, if_pos ⟨by omega, by omega, trivial, trivial, q5⟩]
        congr 5
        omega
      · rw [if_neg q5, if_neg (fun z => q5 z.2.2.2.2)]
        rfl
    · rw [if_neg (fun z => q4 z.2.2.2.1)]
      simp (disch := omega) only [↓reduceIte, ii_lit, ii_add, ii_sub, ii_mul, ii_neg, ii_lt_t, ii_lt_f, ii_le_t, ii_le_f, ii_eq_t, ii_eq_f, ii_in, ii_cl, ii_shr, ii_shl, ii_and1, ii_and255, Option.bind_some, Option.toList, List.cons_append, List.nil_append, Int.toNat_natCast, mu_s, mu_c, mu_k, bI_i0, bI_i1, bI_n, nb_0, nb_1, bI_ft, bI_ff, Bool.false_eq_true, reduceCtorEq, Bool.true_eq_false, decide_true, decide_false, eq_self, Int.reduceAdd, Int.reduceSub, Int.reduceMul, Int.reduceNeg, Int.reduceToNat, tn30, tn31, tn32, tn20, tn21, e_X8_widthAt_5, t, T2, q3, q4, e1, e_X8_widthAt_52]
      rfl
  · rw [if_neg (fun z => q3 z.2.2.1)]
    simp (disch := omega) only [↓reduceIte, ii_lit, ii_add, ii_sub, ii_mul, ii_neg, ii_lt_t, ii_lt_f, ii_le_t, ii_le_f, ii_eq_t, ii_eq_f, ii_in, ii_cl, ii_shr, ii_shl, ii_and1, ii_and255, Option.bind_some, Option.toList, List.cons_append, List.nil_append, Int.toNat_natCast, mu_s, mu_c, mu_k, bI_i0, bI_i1, bI_n, nb_0, nb_1, bI_ft, bI_ff, Bool.false_eq_true, reduceCtorEq, Bool.true_eq_false, decide_true, decide_false, eq_self, Int.reduceAdd, Int.reduceSub, Int.reduceMul, Int.reduceNeg, Int.reduceToNat, tn30, tn31, tn32, tn20, tn21, e_X8_widthAt_5, t, T2, q3, e1, e_X8_widthAt_52]
    rfl
theorem X8_bitsAt_21 {j : Nat} (K : TokC c len N h.1 h.2.2) (T : TxtC c len h.1) (hj : j ≤ N) (v2 : Int32) : ∀ (d i : Nat) (v : Int), i + d = tE c len (tB c len j) → mx_D (3, mm_X8_bitsAt, 21, [.ref 1, .int (iI (j)), .int v2, .int (iI (v)), .int (iI (i))], []) h = some (some (.int (iI (bitF c d i v))), h) := by
  have hb := tE_b (c := c) (len := len) (tB_le (c := c) (len := len) j)
  obtain ⟨T1, T2, T3, T4⟩ := T
  have hN := K.2.2.2
  have t := tok_le K hj
  intro d
  induction d with
  | zero =>
    intro i v hi
    rw [e_X8_bitsAt_21]
    simp (disch := omega) only [↓reduceIte, ii_lit, ii_add, ii_sub, ii_mul, ii_neg, ii_lt_t, ii_lt_f, ii_le_t, ii_le_f, ii_eq_t, ii_eq_f, ii_in, ii_cl, ii_shr, ii_shl, ii_and1, ii_and255, Option.bind_some, Option.toList, List.cons_append, List.nil_append, Int.toNat_natCast, mu_s, mu_c, mu_k, bI_i0, bI_i1, bI_n, nb_0, nb_1, bI_ft, bI_ff, Bool.false_eq_true, reduceCtorEq, Bool.true_eq_false, decide_true, decide_false, eq_self, Int.reduceAdd, Int.reduceSub, Int.reduceMul, Int.reduceNeg, Int.reduceToNat, tn30, tn31, tn32, tn20, tn21, t, e_X8_bitsAt_53]
    rfl
  | succ d ih =>
    intro i v hi
    rw [e_X8_bitsAt_21]
    simp (disch := omega) only [↓reduceIte, ii_lit, ii_add, ii_sub, ii_mul, ii_neg, ii_lt_t, ii_lt_f, ii_le_t, ii_le_f, ii_eq_t, ii_eq_f, ii_in, ii_cl, ii_shr, ii_shl, ii_and1, ii_and255, Option.bind_some, Option.toList, List.cons_append, List.nil_append, Int.toNat_natCast, mu_s, mu_c, mu_k, bI_i0, bI_i1, bI_n, nb_0, nb_1, bI_ft, bI_ff, Bool.false_eq_true, reduceCtorEq, Bool.true_eq_false, decide_true, decide_false, eq_self, Int.reduceAdd, Int.reduceSub, Int.reduceMul, Int.reduceNeg, Int.reduceToNat, tn30, tn31, tn32, tn20, tn21, t, T2]
    exact ih (i + 1) _ (by omega)
theorem X8_bitsAt_c {j w : Nat} (K : TokC c len N h.1 h.2.2) (T : TxtC c len h.1) (hj : j < 2000) (hw : w < tE c len (tB c len j) - tB c len j) : mx_C mm_X8_bitsAt [.ref 1, .int (iI (j)), .int (iI (w))] h = some (some (.int (iI (bitF c w (tE c len (tB c len j) - w) 0))), h) := by
  have hb := tE_b (c := c) (len := len) (tB_le (c := c) (len := len) j)
  have hN := K.2.2.2
  have T3 := T.2.2.1
  have hj' : j ≤ N := by
    apply Decidable.byContradiction
    intro z
    have e := tB_ge K.2.2.1 j (by omega)
    rw [e, tE_len] at hw
    omega
  have t := tok_le K hj'
  have L := X8_bitsAt_21 K T hj' (iI w) w (tE c len (tB c len j) - w) 0 (by omega)
  rw [c_X8_bitsAt, e_X8_bitsAt_0, X8_sizeOf_c K T.2.2.1 hj]
  simp (disch := omega) only [↓reduceIte, ii_lit, ii_add, ii_sub, ii_mul, ii_neg, ii_lt_t, ii_lt_f, ii_le_t, ii_le_f, ii_eq_t, ii_eq_f, ii_in, ii_cl, ii_shr, ii_shl, ii_and1, ii_and255, Option.bind_some, Option.toList, List.cons_append, List.nil_append, Int.toNat_natCast, mu_s, mu_c, mu_k, bI_i0, bI_i1, bI_n, nb_0, nb_1, bI_ft, bI_ff, Bool.false_eq_true, reduceCtorEq, Bool.true_eq_false, decide_true, decide_false, eq_self, Int.reduceAdd, Int.reduceSub, Int.reduceMul, Int.reduceNeg, Int.reduceToNat, tn30, tn31, tn32, tn20, tn21, e_X8_bitsAt_7, t]
  rw [show (tE c len (tB c len j) : Int) - (w : Int) = ((tE c len (tB c len j) - w : Nat) : Int) by omega]
  exact L
theorem X8_clear_c : mx_C mm_X8_clear [.ref 1] h = some (none, (mx_u h.1 1 1 (iI 0), h.2.1, h.2.2)) := by
  rw [c_X8_clear, e_X8_clear_0]; rfl
end TK3
