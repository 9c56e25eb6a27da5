/-! the reference's work -/
theorem b01_i (p : Prop) [Decidable p] : iI ((b01 p : Nat) : Int) = bI (decide p) := by
  unfold b01
  by_cases q : p
  · rw [if_pos q, decide_eq_true q]; rfl
  · rw [if_neg q, decide_eq_false q]; rfl
theorem b01_b (p : Prop) [Decidable p] : b01 p < 2 := by unfold b01; split <;> omega
theorem X11_isTrue_c {k : Int} {x y s w wy q z : Nat} (h : mx_H) (hk : (4 ≤ k ∧ k ≤ 10) ∨ (25 ≤ k ∧ k ≤ 28)) (hw : 25 ≤ k → 1 ≤ w ∧ w ≤ 8) (hx : x < 65536) (hy : y < 65536) : mx_C mm_X11_isTrue [.int (iI (k)), .int (iI ((x : Int))), .int (iI ((y : Int))), .int (iI ((w : Int)))] h = some (some (.int (iI (((opv k s w wy q x y z : Nat) : Int)))), h) := by
  have kk : k = 4 ∨ k = 5 ∨ k = 6 ∨ k = 7 ∨ k = 8 ∨ k = 9 ∨ k = 10 ∨ k = 25 ∨ k = 26 ∨ k = 27 ∨ k = 28 := by omega
  rw [c_X11_isTrue, e_X11_isTrue_0]
  rcases kk with rfl | rfl | rfl | rfl | rfl | rfl | rfl | rfl | rfl | rfl | rfl
  · refine Eq.trans (e_X11_isTrue_1_4 ..) ?_
    show _ = some (some (Value.int (iI ((b01 (x = 0) : Nat) : Int))), h)
    rw [b01_i, e_X11_isTrue_112]
    by_cases p : x = 0
    · rw [decide_eq_true p]
      simp (disch := omega) only [↓reduceIte, ii_lit, ii_add, ii_sub, ii_mul, ii_neg, ii_lt_t, ii_lt_f, ii_le_t, ii_le_f, ii_eq_t, ii_eq_f, ii_in, ii_cl, ii_shr, ii_shl, ii_and1, ii_and255, Option.bind_some, Option.toList, List.cons_append, List.nil_append, Int.toNat_natCast, mu_s, mu_c, mu_k, bI_i0, bI_i1, bI_n, nb_0, nb_1, bI_ft, bI_ff, Bool.false_eq_true, reduceCtorEq, Bool.true_eq_false, decide_true, decide_false, eq_self, Int.reduceAdd, Int.reduceSub, Int.reduceMul, Int.reduceNeg, Int.reduceToNat, tn30, tn31, tn32, tn20, tn21, e_X11_isTrue_121]
    · rw [decide_eq_false p]
      simp (disch := omega) only [↓reduceIte, ii_lit, ii_add, ii_sub, ii_mul, ii_neg, ii_lt_t, ii_lt_f, ii_le_t, ii_le_f, ii_eq_t, ii_eq_f, ii_in, ii_cl, ii_shr, ii_shl, ii_and1, ii_and255, Option.bind_some, Option.toList, List.cons_append, List.nil_append, Int.toNat_natCast, mu_s, mu_c, mu_k, bI_i0, bI_i1, bI_n, nb_0, nb_1, bI_ft, bI_ff, Bool.false_eq_true, reduceCtorEq, Bool.true_eq_false, decide_true, decide_false, eq_self, Int.reduceAdd, Int.reduceSub, Int.reduceMul, Int.reduceNeg, Int.reduceToNat, tn30, tn31, tn32, tn20, tn21, e_X11_isTrue_121]
  · refine Eq.trans (e_X11_isTrue_1_5 ..) ?_
    show _ = some (some (Value.int (iI ((b01 (x = 1 ∧ y = 1) : Nat) : Int))), h)
    rw [b01_i, e_X11_isTrue_122]
    by_cases p1 : x = 1
    · by_cases p2 : y = 1
      · rw [decide_eq_true ⟨p1, p2⟩]
        simp (disch := omega) only [↓reduceIte, ii_lit, ii_add, ii_sub, ii_mul, ii_neg, ii_lt_t, ii_lt_f, ii_le_t, ii_le_f, ii_eq_t, ii_eq_f, ii_in, ii_cl, ii_shr, ii_shl, ii_and1, ii_and255, Option.bind_some, Option.toList, List.cons_append, List.nil_append, Int.toNat_natCast, mu_s, mu_c, mu_k, bI_i0, bI_i1, bI_n, nb_0, nb_1, bI_ft, bI_ff, Bool.false_eq_true, reduceCtorEq, Bool.true_eq_false, decide_true, decide_false, eq_self, Int.reduceAdd, Int.reduceSub, Int.reduceMul, Int.reduceNeg, Int.reduceToNat, tn30, tn31, tn32, tn20, tn21, e_X11_isTrue_136, e_X11_isTrue_137]
      · rw [decide_eq_false (fun z => p2 z.2)]
        simp (disch := omega) only [↓reduceIte, ii_lit, ii_add, ii_sub, ii_mul, ii_neg, ii_lt_t, ii_lt_f, ii_le_t, ii_le_f, ii_eq_t, ii_eq_f, ii_in, ii_cl, ii_shr, ii_shl, ii_and1, ii_and255, Option.bind_some, Option.toList, List.cons_append, List.nil_append, Int.toNat_natCast, mu_s, mu_c, mu_k, bI_i0, bI_i1, bI_n, nb_0, nb_1, bI_ft, bI_ff, Bool.false_eq_true, reduceCtorEq, Bool.true_eq_false, decide_true, decide_false, eq_self, Int.reduceAdd, Int.reduceSub, Int.reduceMul, Int.reduceNeg, Int.reduceToNat, tn30, tn31, tn32, tn20, tn21, e_X11_isTrue_136, e_X11_isTrue_137]
    · rw [decide_eq_false (fun z => p1 z.1)]
      simp (disch := omega) only [↓reduceIte, ii_lit, ii_add, ii_sub, ii_mul, ii_neg, ii_lt_t, ii_lt_f, ii_le_t, ii_le_f, ii_eq_t, ii_eq_f, ii_in, ii_cl, ii_shr, ii_shl, ii_and1, ii_and255, Option.bind_some, Option.toList, List.cons_append, List.nil_append, Int.toNat_natCast, mu_s, mu_c, mu_k, bI_i0, bI_i1, bI_n, nb_0, nb_1, bI_ft, bI_ff, Bool.false_eq_true, reduceCtorEq, Bool.true_eq_false, decide_true, decide_false, eq_self, Int.reduceAdd, Int.reduceSub, Int.reduceMul, Int.reduceNeg, Int.reduceToNat, tn30, tn31, tn32, tn20, tn21, e_X11_isTrue_136, e_X11_isTrue_137]
  · refine Eq.trans (e_X11_isTrue_1_6 ..) ?_
    show _ = some (some (Value.int (iI ((b01 (x = 1 ∨ y = 1) : Nat) : Int))), h)
    rw [b01_i, e_X11_isTrue_138]
    by_cases p1 : x = 1
    · rw [decide_eq_true (Or.inl p1)]
      simp (disch := omega) only [↓reduceIte, ii_lit, ii_add, ii_sub, ii_mul, ii_neg, ii_lt_t, ii_lt_f, ii_le_t, ii_le_f, ii_eq_t, ii_eq_f, ii_in, ii_cl, ii_shr, ii_shl, ii_and1, ii_and255, Option.bind_some, Option.toList, List.cons_append, List.nil_append, Int.toNat_natCast, mu_s, mu_c, mu_k, bI_i0, bI_i1, bI_n, nb_0, nb_1, bI_ft, bI_ff, Bool.false_eq_true, reduceCtorEq, Bool.true_eq_false, decide_true, decide_false, eq_self, Int.reduceAdd, Int.reduceSub, Int.reduceMul, Int.reduceNeg, Int.reduceToNat, tn30, tn31, tn32, tn20, tn21, e_X11_isTrue_148, e_X11_isTrue_153]
    · by_cases p2 : y = 1
      · rw [decide_eq_true (Or.inr p2)]
        simp (disch := omega) only [↓reduceIte, ii_lit, ii_add, ii_sub, ii_mul, ii_neg, ii_lt_t, ii_lt_f, ii_le_t, ii_le_f, ii_eq_t, ii_eq_f, ii_in, ii_cl, ii_shr, ii_shl, ii_and1, ii_and255, Option.bind_some, Option.toList, List.cons_append, List.nil_append, Int.toNat_natCast, mu_s, mu_c, mu_k, bI_i0, bI_i1, bI_n, nb_0, nb_1, bI_ft, bI_ff, Bool.false_eq_true, reduceCtorEq, Bool.true_eq_false, decide_true, decide_false, eq_self, Int.reduceAdd, Int.reduceSub, Int.reduceMul, Int.reduceNeg, Int.reduceToNat, tn30, tn31, tn32, tn20, tn21, e_X11_isTrue_148, e_X11_isTrue_153]
      · rw [decide_eq_false (fun z => z.elim p1 p2)]
        simp (disch := omega) only [↓reduceIte, ii_lit, ii_add, ii_sub, ii_mul, ii_neg, ii_lt_t, ii_lt_f, ii_le_t, ii_le_f, ii_eq_t, ii_eq_f, ii_in, ii_cl, ii_shr, ii_shl, ii_and1, ii_and255, Option.bind_some, Option.toList, List.cons_append, List.nil_append, Int.toNat_natCast, mu_s, mu_c, mu_k, bI_i0, bI_i1, bI_n, nb_0, nb_1, bI_ft, bI_ff, Bool.false_eq_true, reduceCtorEq, Bool.true_eq_false, decide_true, decide_false, eq_self, Int.reduceAdd, Int.reduceSub, Int.reduceMul, Int.reduceNeg, Int.reduceToNat, tn30, tn31, tn32, tn20, tn21, e_X11_isTrue_148, e_X11_isTrue_153]
  · refine Eq.trans (e_X11_isTrue_1_7 ..) ?_
    show _ = some (some (Value.int (iI ((b01 (x ≠ y) : Nat) : Int))), h)
    rw [b01_i, e_X11_isTrue_154]
    by_cases p : x = y
    · rw [decide_eq_false (fun z => z p)]
      simp (disch := omega) only [↓reduceIte, ii_lit, ii_add, ii_sub, ii_mul, ii_neg, ii_lt_t, ii_lt_f, ii_le_t, ii_le_f, ii_eq_t, ii_eq_f, ii_in, ii_cl, ii_shr, ii_shl, ii_and1, ii_and255, Option.bind_some, Option.toList, List.cons_append, List.nil_append, Int.toNat_natCast, mu_s, mu_c, mu_k, bI_i0, bI_i1, bI_n, nb_0, nb_1, bI_ft, bI_ff, Bool.false_eq_true, reduceCtorEq, Bool.true_eq_false, decide_true, decide_false, eq_self, Int.reduceAdd, Int.reduceSub, Int.reduceMul, Int.reduceNeg, Int.reduceToNat, tn30, tn31, tn32, tn20, tn21, e_X11_isTrue_164]
    · rw [decide_eq_true p]
      simp (disch := omega) only [↓reduceIte, ii_lit, ii_add, ii_sub, ii_mul, ii_neg, ii_lt_t, ii_lt_f, ii_le_t, ii_le_f, ii_eq_t, ii_eq_f, ii_in, ii_cl, ii_shr, ii_shl, ii_and1, ii_and255, Option.bind_some, Option.toList, List.cons_append, List.nil_append, Int.toNat_natCast, mu_s, mu_c, mu_k, bI_i0, bI_i1, bI_n, nb_0, nb_1, bI_ft, bI_ff, Bool.false_eq_true, reduceCtorEq, Bool.true_eq_false, decide_true, decide_false, eq_self, Int.reduceAdd, Int.reduceSub, Int.reduceMul, Int.reduceNeg, Int.reduceToNat, tn30, tn31, tn32, tn20, tn21, e_X11_isTrue_164]
  · refine Eq.trans (e_X11_isTrue_1_8 ..) ?_
    show _ = some (some (Value.int (iI ((b01 (x = 0 ∨ y = 1) : Nat) : Int))), h)
    rw [b01_i, e_X11_isTrue_165]
    by_cases p1 : x = 0
    · rw [decide_eq_true (Or.inl p1)]
      simp (disch := omega) only [↓reduceIte, ii_lit, ii_add, ii_sub, ii_mul, ii_neg, ii_lt_t, ii_lt_f, ii_le_t, ii_le_f, ii_eq_t, ii_eq_f, ii_in, ii_cl, ii_shr, ii_shl, ii_and1, ii_and255, Option.bind_some, Option.toList, List.cons_append, List.nil_append, Int.toNat_natCast, mu_s, mu_c, mu_k, bI_i0, bI_i1, bI_n, nb_0, nb_1, bI_ft, bI_ff, Bool.false_eq_true, reduceCtorEq, Bool.true_eq_false, decide_true, decide_false, eq_self, Int.reduceAdd, Int.reduceSub, Int.reduceMul, Int.reduceNeg, Int.reduceToNat, tn30, tn31, tn32, tn20, tn21, e_X11_isTrue_174, e_X11_isTrue_179]
    · by_cases p2 : y = 1
      · rw [decide_eq_true (Or.inr p2)]
        simp (disch := omega) only [↓reduceIte, ii_lit, ii_add, ii_sub, ii_mul, ii_neg, ii_lt_t, ii_lt_f, ii_le_t, ii_le_f, ii_eq_t, ii_eq_f, ii_in, ii_cl, ii_shr, ii_shl, ii_and1, ii_and255, Option.bind_some, Option.toList, List.cons_append, List.nil_append, Int.toNat_natCast, mu_s, mu_c, mu_k, bI_i0, bI_i1, bI_n, nb_0, nb_1, bI_ft, bI_ff, Bool.false_eq_true, reduceCtorEq, Bool.true_eq_false, decide_true, decide_false, eq_self, Int.reduceAdd, Int.reduceSub, Int.reduceMul, Int.reduceNeg, Int.reduceToNat, tn30, tn31, tn32, tn20, tn21, e_X11_isTrue_174, e_X11_isTrue_179]
      · rw [decide_eq_false (fun z => z.elim p1 p2)]
        simp (disch := omega) only [↓reduceIte, ii_lit, ii_add, ii_sub, ii_mul, ii_neg, ii_lt_t, ii_lt_f, ii_le_t, ii_le_f, ii_eq_t, ii_eq_f, ii_in, ii_cl, ii_shr, ii_shl, ii_and1, ii_and255, Option.bind_some, Option.toList, List.cons_append, List.nil_append, Int.toNat_natCast, mu_s, mu_c, mu_k, bI_i0, bI_i1, bI_n, nb_0, nb_1, bI_ft, bI_ff, Bool.false_eq_true, reduceCtorEq, Bool.true_eq_false, decide_true, decide_false, eq_self, Int.reduceAdd, Int.reduceSub, Int.reduceMul, Int.reduceNeg, Int.reduceToNat, tn30, tn31, tn32, tn20, tn21, e_X11_isTrue_174, e_X11_isTrue_179]
  · refine Eq.trans (e_X11_isTrue_1_9 ..) ?_
    show _ = some (some (Value.int (iI ((b01 (x = y) : Nat) : Int))), h)
    rw [b01_i, e_X11_isTrue_180]
    by_cases p : x = y
    · rw [decide_eq_true p]
      simp (disch := omega) only [↓reduceIte, ii_lit, ii_add, ii_sub, ii_mul, ii_neg, ii_lt_t, ii_lt_f, ii_le_t, ii_le_f, ii_eq_t, ii_eq_f, ii_in, ii_cl, ii_shr, ii_shl, ii_and1, ii_and255, Option.bind_some, Option.toList, List.cons_append, List.nil_append, Int.toNat_natCast, mu_s, mu_c, mu_k, bI_i0, bI_i1, bI_n, nb_0, nb_1, bI_ft, bI_ff, Bool.false_eq_true, reduceCtorEq, Bool.true_eq_false, decide_true, decide_false, eq_self, Int.reduceAdd, Int.reduceSub, Int.reduceMul, Int.reduceNeg, Int.reduceToNat, tn30, tn31, tn32, tn20, tn21, e_X11_isTrue_190]
    · rw [decide_eq_false p]
      simp (disch := omega) only [↓reduceIte, ii_lit, ii_add, ii_sub, ii_mul, ii_neg, ii_lt_t, ii_lt_f, ii_le_t, ii_le_f, ii_eq_t, ii_eq_f, ii_in, ii_cl, ii_shr, ii_shl, ii_and1, ii_and255, Option.bind_some, Option.toList, List.cons_append, List.nil_append, Int.toNat_natCast, mu_s, mu_c, mu_k, bI_i0, bI_i1, bI_n, nb_0, nb_1, bI_ft, bI_ff, Bool.false_eq_true, reduceCtorEq, Bool.true_eq_false, decide_true, decide_false, eq_self, Int.reduceAdd, Int.reduceSub, Int.reduceMul, Int.reduceNeg, Int.reduceToNat, tn30, tn31, tn32, tn20, tn21, e_X11_isTrue_190]
  · refine Eq.trans (e_X11_isTrue_1_10 ..) ?_
    show _ = some (some (Value.int (iI ((b01 (x ≠ y) : Nat) : Int))), h)
    rw [b01_i, e_X11_isTrue_191]
    by_cases p : x = y
    · rw [decide_eq_false (fun z => z p)]
      simp (disch := omega) only [↓reduceIte, ii_lit, ii_add, ii_sub, ii_mul, ii_neg, ii_lt_t, ii_lt_f, ii_le_t, ii_le_f, ii_eq_t, ii_eq_f, ii_in, ii_cl, ii_shr, ii_shl, ii_and1, ii_and255, Option.bind_some, Option.toList, List.cons_append, List.nil_append, Int.toNat_natCast, mu_s, mu_c, mu_k, bI_i0, bI_i1, bI_n, nb_0, nb_1, bI_ft, bI_ff, Bool.false_eq_true, reduceCtorEq, Bool.true_eq_false, decide_true, decide_false, eq_self, Int.reduceAdd, Int.reduceSub, Int.reduceMul, Int.reduceNeg, Int.reduceToNat, tn30, tn31, tn32, tn20, tn21, e_X11_isTrue_201]
    · rw [decide_eq_true p]
      simp (disch := omega) only [↓reduceIte, ii_lit, ii_add, ii_sub, ii_mul, ii_neg, ii_lt_t, ii_lt_f, ii_le_t, ii_le_f, ii_eq_t, ii_eq_f, ii_in, ii_cl, ii_shr, ii_shl, ii_and1, ii_and255, Option.bind_some, Option.toList, List.cons_append, List.nil_append, Int.toNat_natCast, mu_s, mu_c, mu_k, bI_i0, bI_i1, bI_n, nb_0, nb_1, bI_ft, bI_ff, Bool.false_eq_true, reduceCtorEq, Bool.true_eq_false, decide_true, decide_false, eq_self, Int.reduceAdd, Int.reduceSub, Int.reduceMul, Int.reduceNeg, Int.reduceToNat, tn30, tn31, tn32, tn20, tn21, e_X11_isTrue_201]
  · refine Eq.trans (e_X11_isTrue_1_25 ..) ?_
    show _ = some (some (Value.int (iI ((b01 (x < y) : Nat) : Int))), h)
    rw [b01_i, e_X11_isTrue_202]
    by_cases p : x < y
    · rw [decide_eq_true p]
      simp (disch := omega) only [↓reduceIte, ii_lit, ii_add, ii_sub, ii_mul, ii_neg, ii_lt_t, ii_lt_f, ii_le_t, ii_le_f, ii_eq_t, ii_eq_f, ii_in, ii_cl, ii_shr, ii_shl, ii_and1, ii_and255, Option.bind_some, Option.toList, List.cons_append, List.nil_append, Int.toNat_natCast, mu_s, mu_c, mu_k, bI_i0, bI_i1, bI_n, nb_0, nb_1, bI_ft, bI_ff, Bool.false_eq_true, reduceCtorEq, Bool.true_eq_false, decide_true, decide_false, eq_self, Int.reduceAdd, Int.reduceSub, Int.reduceMul, Int.reduceNeg, Int.reduceToNat, tn30, tn31, tn32, tn20, tn21, e_X11_isTrue_212]
    · rw [decide_eq_false p]
      simp (disch := omega) only [↓reduceIte, ii_lit, ii_add, ii_sub, ii_mul, ii_neg, ii_lt_t, ii_lt_f, ii_le_t, ii_le_f, ii_eq_t, ii_eq_f, ii_in, ii_cl, ii_shr, ii_shl, ii_and1, ii_and255, Option.bind_some, Option.toList, List.cons_append, List.nil_append, Int.toNat_natCast, mu_s, mu_c, mu_k, bI_i0, bI_i1, bI_n, nb_0, nb_1, bI_ft, bI_ff, Bool.false_eq_true, reduceCtorEq, Bool.true_eq_false, decide_true, decide_false, eq_self, Int.reduceAdd, Int.reduceSub, Int.reduceMul, Int.reduceNeg, Int.reduceToNat, tn30, tn31, tn32, tn20, tn21, e_X11_isTrue_212]
  · refine Eq.trans (e_X11_isTrue_1_26 ..) ?_
    show _ = some (some (Value.int (iI ((b01 (x ≤ y) : Nat) : Int))), h)
    rw [b01_i, e_X11_isTrue_213]
    by_cases p : x ≤ y
    · rw [decide_eq_true p]
      simp (disch := omega) only [↓reduceIte, ii_lit, ii_add, ii_sub, ii_mul, ii_neg, ii_lt_t, ii_lt_f, ii_le_t, ii_le_f, ii_eq_t, ii_eq_f, ii_in, ii_cl, ii_shr, ii_shl, ii_and1, ii_and255, Option.bind_some, Option.toList, List.cons_append, List.nil_append, Int.toNat_natCast, mu_s, mu_c, mu_k, bI_i0, bI_i1, bI_n, nb_0, nb_1, bI_ft, bI_ff, Bool.false_eq_true, reduceCtorEq, Bool.true_eq_false, decide_true, decide_false, eq_self, Int.reduceAdd, Int.reduceSub, Int.reduceMul, Int.reduceNeg, Int.reduceToNat, tn30, tn31, tn32, tn20, tn21, e_X11_isTrue_223]
    · rw [decide_eq_false p]
      simp (disch := omega) only [↓reduceIte, ii_lit, ii_add, ii_sub, ii_mul, ii_neg, ii_lt_t, ii_lt_f, ii_le_t, ii_le_f, ii_eq_t, ii_eq_f, ii_in, ii_cl, ii_shr, ii_shl, ii_and1, ii_and255, Option.bind_some, Option.toList, List.cons_append, List.nil_append, Int.toNat_natCast, mu_s, mu_c, mu_k, bI_i0, bI_i1, bI_n, nb_0, nb_1, bI_ft, bI_ff, Bool.false_eq_true, reduceCtorEq, Bool.true_eq_false, decide_true, decide_false, eq_self, Int.reduceAdd, Int.reduceSub, Int.reduceMul, Int.reduceNeg, Int.reduceToNat, tn30, tn31, tn32, tn20, tn21, e_X11_isTrue_223]
  · have hw := hw (by decide)
    obtain ⟨a1, a2, a3⟩ := p2 (s := w) (by omega)
    have sx : -256 ≤ sgn x w ∧ sgn x w < 65536 := by unfold sgn; split <;> omega
    have sy : -256 ≤ sgn y w ∧ sgn y w < 65536 := by unfold sgn; split <;> omega
    refine Eq.trans (e_X11_isTrue_1_27 ..) ?_
    show _ = some (some (Value.int (iI ((b01 (sgn x w < sgn y w) : Nat) : Int))), h)
    rw [b01_i, e_X11_isTrue_224, X11_sign_c h (by omega) (by omega)]
    refine Eq.trans (e_X11_isTrue_229 ..) ?_
    dsimp only
    rw [X11_sign_c h (by omega) (by omega)]
    refine Eq.trans (e_X11_isTrue_234 ..) ?_
    by_cases p : sgn x w < sgn y w
    · rw [decide_eq_true p]
      simp (disch := omega) only [↓reduceIte, ii_lit, ii_add, ii_sub, ii_mul, ii_neg, ii_lt_t, ii_lt_f, ii_le_t, ii_le_f, ii_eq_t, ii_eq_f, ii_in, ii_cl, ii_shr, ii_shl, ii_and1, ii_and255, Option.bind_some, Option.toList, List.cons_append, List.nil_append, Int.toNat_natCast, mu_s, mu_c, mu_k, bI_i0, bI_i1, bI_n, nb_0, nb_1, bI_ft, bI_ff, Bool.false_eq_true, reduceCtorEq, Bool.true_eq_false, decide_true, decide_false, eq_self, Int.reduceAdd, Int.reduceSub, Int.reduceMul, Int.reduceNeg, Int.reduceToNat, tn30, tn31, tn32, tn20, tn21, e_X11_isTrue_242]
    · rw [decide_eq_false p]
      simp (disch := omega) only [↓reduceIte, ii_lit, ii_add, ii_sub, ii_mul, ii_neg, ii_lt_t, ii_lt_f, ii_le_t, ii_le_f, ii_eq_t, ii_eq_f, ii_in, ii_cl, ii_shr, ii_shl, ii_and1, ii_and255, Option.bind_some, Option.toList, List.cons_append, List.nil_append, Int.toNat_natCast, mu_s, mu_c, mu_k, bI_i0, bI_i1, bI_n, nb_0, nb_1, bI_ft, bI_ff, Bool.false_eq_true, reduceCtorEq, Bool.true_eq_false, decide_true, decide_false, eq_self, Int.reduceAdd, Int.reduceSub, Int.reduceMul, Int.reduceNeg, Int.reduceToNat, tn30, tn31, tn32, tn20, tn21, e_X11_isTrue_242]
  · have hw := hw (by decide)
    obtain ⟨a1, a2, a3⟩ := p2 (s := w) (by omega)
    have sx : -256 ≤ sgn x w ∧ sgn x w < 65536 := by unfold sgn; split <;> omega
    have sy : -256 ≤ sgn y w ∧ sgn y w < 65536 := by unfold sgn; split <;> omega
    refine Eq.trans (e_X11_isTrue_1_d (hx := by decide) ..) ?_
    show _ = some (some (Value.int (iI ((b01 (sgn x w ≤ sgn y w) : Nat) : Int))), h)
    rw [b01_i, e_X11_isTrue_243, X11_sign_c h (by omega) (by omega)]
    refine Eq.trans (e_X11_isTrue_248 ..) ?_
    dsimp only
    rw [X11_sign_c h (by omega) (by omega)]
    refine Eq.trans (e_X11_isTrue_253 ..) ?_
    by_cases p : sgn x w ≤ sgn y w
    · rw [decide_eq_true p]
      simp (disch := omega) only [↓reduceIte, ii_lit, ii_add, ii_sub, ii_mul, ii_neg, ii_lt_t, ii_lt_f, ii_le_t, ii_le_f, ii_eq_t, ii_eq_f, ii_in, ii_cl, ii_shr, ii_shl, ii_and1, ii_and255, Option.bind_some, Option.toList, List.cons_append, List.nil_append, Int.toNat_natCast, mu_s, mu_c, mu_k, bI_i0, bI_i1, bI_n, nb_0, nb_1, bI_ft, bI_ff, Bool.false_eq_true, reduceCtorEq, Bool.true_eq_false, decide_true, decide_false, eq_self, Int.reduceAdd, Int.reduceSub, Int.reduceMul, Int.reduceNeg, Int.reduceToNat, tn30, tn31, tn32, tn20, tn21, e_X11_isTrue_261]
    · rw [decide_eq_false p]
      simp (disch := omega) only [↓reduceIte, ii_lit, ii_add, ii_sub, ii_mul, ii_neg, ii_lt_t, ii_lt_f, ii_le_t, ii_le_f, ii_eq_t, ii_eq_f, ii_in, ii_cl, ii_shr, ii_shl, ii_and1, ii_and255, Option.bind_some, Option.toList, List.cons_append, List.nil_append, Int.toNat_natCast, mu_s, mu_c, mu_k, bI_i0, bI_i1, bI_n, nb_0, nb_1, bI_ft, bI_ff, Bool.false_eq_true, reduceCtorEq, Bool.true_eq_false, decide_true, decide_false, eq_self, Int.reduceAdd, Int.reduceSub, Int.reduceMul, Int.reduceNeg, Int.reduceToNat, tn30, tn31, tn32, tn20, tn21, e_X11_isTrue_261]
def prV (m : Nat → Nat) (a : Int) : Nat := if a < 0 then 0 else m a.toNat
def opT (ts : Nat → Tm) (t : Nat) (m : Nat → Nat) : Nat := opv (tk (ts t)) (tS (ts t)).toNat (if tx (ts t) < 0 then 1 else tS (ts (tx (ts t)).toNat)).toNat (if ty (ts t) < 0 then 0 else tS (ts (ty (ts t)).toNat)).toNat (tq (ts t)).toNat (prV m (tx (ts t))) (prV m (ty (ts t))) (prV m (tz (ts t)))
/-- in range -/
def rg (ts : Nat → Tm) (m : Nat → Nat) (u : Nat) : Prop := m u < 2 ^ (bitsS (tS (ts u))).toNat
theorem bS0 : bitsS 0 = 1 := rfl
theorem bSw {a : Int} (h : 1 ≤ a ∧ a ≤ 4) : bitsS a = a := by unfold bitsS; rw [if_neg (by omega), if_neg (by omega)]
theorem bSa {a : Int} (h : 4 < a) : bitsS a = 2 * (a - 4) := by unfold bitsS; rw [if_neg (by omega), if_pos h]
theorem pw_le {a b : Nat} (h : a ≤ b) : 2 ^ a ≤ 2 ^ b := Nat.pow_le_pow_right (by decide) h
/-- what is known of a term that is no constant and no literal -/
theorem term_f {n : Nat} {ts : Nat → Tm} (W : WF n ts) {t : Nat} (ht : t < n) (hk : 4 ≤ tk (ts t)) : ∃ x a : Nat, tx (ts t) = (x : Int) ∧ tS (ts x) = (a : Int) ∧ x < t ∧ a ≤ 8 ∧ fitP (tk (ts t)) 0 a a 0 (tp (ts t)) ∧ (∃ y b : Nat, (2 ≤ np (tk (ts t)) → ty (ts t) = (y : Int) ∧ tS (ts y) = (b : Int) ∧ y < t ∧ b ≤ 8 ∧ fitP (tk (ts t)) 1 b a b (tp (ts t))) ∧ (np (tk (ts t)) < 2 → ty (ts t) = -1) ∧ (2 ≤ np (tk (ts t)) → tS (ts t) = resS (tk (ts t)) a b (tp (ts t)) (tq (ts t))) ∧ ∃ z d : Nat, (3 ≤ np (tk (ts t)) → tz (ts t) = (z : Int) ∧ tS (ts z) = (d : Int) ∧ z < t ∧ d ≤ 8 ∧ fitP (tk (ts t)) 2 d a b (tp (ts t))) ∧ (np (tk (ts t)) < 3 → tz (ts t) = -1)) := by
  obtain ⟨sh, pl, ty0⟩ := W.1 t ht
  obtain ⟨s1, s2, s3, s4, s5, s6, s7, s8, s9, s10, s11, _⟩ := sh
  obtain ⟨f0, f1, f2, rs, _⟩ := ty0.2.2.2 hk
  have nb := np_b (k := tk (ts t)) (by omega)
  have x0 := s6.mp nb.1
  have sx := (W.1 (tx (ts t)).toNat (by omega)).1.2.1
  refine ⟨(tx (ts t)).toNat, (tS (ts (tx (ts t)).toNat)).toNat, by omega, by omega, by omega, by omega, ?_, ?_⟩
  · rw [Int.toNat_of_nonneg sx.1]; exact f0
  · rw [Int.toNat_of_nonneg sx.1]
    by_cases q2 : 2 ≤ np (tk (ts t))
    · have y0 := s7.mp q2
      have sy := (W.1 (ty (ts t)).toNat (by omega)).1.2.1
      refine ⟨(ty (ts t)).toNat, (tS (ts (ty (ts t)).toNat)).toNat, fun _ => ⟨by omega, by omega, by omega, by omega, by rw [Int.toNat_of_nonneg sy.1]; exact f1 q2⟩, fun z => by omega, fun _ => by rw [Int.toNat_of_nonneg sy.1]; exact rs, ?_⟩
      by_cases q3 : 3 ≤ np (tk (ts t))
      · have z0 := s8.mp q3
        have sz := (W.1 (tz (ts t)).toNat (by omega)).1.2.1
        exact ⟨(tz (ts t)).toNat, (tS (ts (tz (ts t)).toNat)).toNat, fun _ => ⟨by omega, by omega, by omega, by omega, by rw [Int.toNat_of_nonneg sz.1, Int.toNat_of_nonneg sy.1]; exact f2 q3⟩, fun z => by omega⟩
      · exact ⟨0, 0, fun z => absurd z q3, fun _ => by omega⟩
    · exact ⟨0, 0, fun z => absurd z q2, fun _ => by omega, fun z => absurd z q2, 0, 0, fun z => by omega, fun _ => by omega⟩
