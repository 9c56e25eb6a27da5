/-! what is asked of a token -/
theorem tB_ge {c : Nat → Int} {len N : Nat} (h : tB c len N = len) : ∀ j, N ≤ j → tB c len j = len := by
  intro j hj
  induction hj with
  | refl => exact h
  | step _ ih => exact tB_end ih
theorem wdx_nil (c : Nat → Int) (b : Nat) : wdx c b b = none := by
  cases q : wdx c b b with
  | none => rfl
  | some i =>
    have h1 := (wdx_iff (wdx_lt q)).mp q
    have h2 := congrArg List.length h1
    rw [tkL_len] at h2
    have := txt_len ⟨i, wdx_lt q⟩
    dsimp only at this
    omega
section TK
variable {c : Nat → Int} {len N : Nat} {h : mx_H}
theorem X8_hasToken_c {j : Nat} (hh : h.1 1 5 = iI ((N + 1 : Nat) : Int)) (hN : N ≤ 120) (hj : j < 2000) : mx_C mm_X8_hasToken [.ref 1, .int (iI (j))] h = some (some (.int (bI (decide (j ≤ N)))), h) := by
  rw [c_X8_hasToken, e_X8_hasToken_0]
  by_cases q : j ≤ N
  · simp (disch := omega) only [↓reduceIte, ii_lit, ii_add, ii_sub, ii_mul, ii_neg, ii_lt_t, ii_lt_f, ii_le_t, ii_le_f, ii_eq_t, ii_eq_f, ii_in, ii_cl, ii_shr, ii_shl, ii_and1, ii_and255, Option.bind_some, Option.toList, List.cons_append, List.nil_append, Int.toNat_natCast, mu_s, mu_c, mu_k, bI_i0, bI_i1, bI_n, nb_0, nb_1, bI_ft, bI_ff, Bool.false_eq_true, reduceCtorEq, Bool.true_eq_false, decide_true, decide_false, eq_self, Int.reduceAdd, Int.reduceSub, Int.reduceMul, Int.reduceNeg, Int.reduceToNat, tn30, tn31, tn32, tn20, tn21, hh, q, e_X8_hasToken_17]
  · simp (disch := omega) only [↓reduceIte, ii_lit, ii_add, ii_sub, ii_mul, ii_neg, ii_lt_t, ii_lt_f, ii_le_t, ii_le_f, ii_eq_t, ii_eq_f, ii_in, ii_cl, ii_shr, ii_shl, ii_and1, ii_and255, Option.bind_some, Option.toList, List.cons_append, List.nil_append, Int.toNat_natCast, mu_s, mu_c, mu_k, bI_i0, bI_i1, bI_n, nb_0, nb_1, bI_ft, bI_ff, Bool.false_eq_true, reduceCtorEq, Bool.true_eq_false, decide_true, decide_false, eq_self, Int.reduceAdd, Int.reduceSub, Int.reduceMul, Int.reduceNeg, Int.reduceToNat, tn30, tn31, tn32, tn20, tn21, hh, q, e_X8_hasToken_16, e_X8_hasToken_17]
theorem tok_le (K : TokC c len N h.1 h.2.2) {j : Nat} (q : j ≤ N) : h.1 3 j = iI (tB c len j) ∧ h.1 4 j = iI (tE c len (tB c len j)) ∧ h.2.2 5 j = wRf (wdx c (tB c len j) (tE c len (tB c len j))) := K.1.2 j (by omega)
theorem X8_sizeOf_c {j : Nat} (K : TokC c len N h.1 h.2.2) (hl : len ≤ 120) (hj : j < 2000) : mx_C mm_X8_sizeOf [.ref 1, .int (iI (j))] h = some (some (.int (iI (((tE c len (tB c len j) - tB c len j : Nat) : Int)))), h) := by
  have hb := tE_b (c := c) (len := len) (tB_le (c := c) (len := len) j)
  rw [c_X8_sizeOf, e_X8_sizeOf_0, X8_hasToken_c K.1.1 K.2.2.2 hj]
  by_cases q : j ≤ N
  · have := tok_le K q
    have hN := K.2.2.2
    simp (disch := omega) only [↓reduceIte, ii_lit, ii_add, ii_sub, ii_mul, ii_neg, ii_lt_t, ii_lt_f, ii_le_t, ii_le_f, ii_eq_t, ii_eq_f, ii_in, ii_cl, ii_shr, ii_shl, ii_and1, ii_and255, Option.bind_some, Option.toList, List.cons_append, List.nil_append, Int.toNat_natCast, mu_s, mu_c, mu_k, bI_i0, bI_i1, bI_n, nb_0, nb_1, bI_ft, bI_ff, Bool.false_eq_true, reduceCtorEq, Bool.true_eq_false, decide_true, decide_false, eq_self, Int.reduceAdd, Int.reduceSub, Int.reduceMul, Int.reduceNeg, Int.reduceToNat, tn30, tn31, tn32, tn20, tn21, q, e_X8_sizeOf_5, e_X8_sizeOf_25, this]
    congr 5
    omega
  · have e := tB_ge K.2.2.1 j (by omega)
    have e2 : tE c len (tB c len j) - tB c len j = 0 := by rw [e, tE_len]; omega
    simp (disch := omega) only [↓reduceIte, ii_lit, ii_add, ii_sub, ii_mul, ii_neg, ii_lt_t, ii_lt_f, ii_le_t, ii_le_f, ii_eq_t, ii_eq_f, ii_in, ii_cl, ii_shr, ii_shl, ii_and1, ii_and255, Option.bind_some, Option.toList, List.cons_append, List.nil_append, Int.toNat_natCast, mu_s, mu_c, mu_k, bI_i0, bI_i1, bI_n, nb_0, nb_1, bI_ft, bI_ff, Bool.false_eq_true, reduceCtorEq, Bool.true_eq_false, decide_true, decide_false, eq_self, Int.reduceAdd, Int.reduceSub, Int.reduceMul, Int.reduceNeg, Int.reduceToNat, tn30, tn31, tn32, tn20, tn21, q, e_X8_sizeOf_5, e_X8_sizeOf_25, e2]
    rfl
theorem X8_start_c {j : Nat} (K : TokC c len N h.1 h.2.2) (T : TxtC c len h.1) (hj : j < 2000) : mx_C mm_X8_start [.ref 1, .int (iI (j))] h = some (some (.int (iI ((tB c len j : Int)))), h) := by
  rw [c_X8_start, e_X8_start_0, X8_hasToken_c K.1.1 K.2.2.2 hj]
  have hN := K.2.2.2
  by_cases q : j ≤ N
  · have := tok_le K q
    simp (disch := omega) only [↓reduceIte, ii_lit, ii_add, ii_sub, ii_mul, ii_neg, ii_lt_t, ii_lt_f, ii_le_t, ii_le_f, ii_eq_t, ii_eq_f, ii_in, ii_cl, ii_shr, ii_shl, ii_and1, ii_and255, Option.bind_some, Option.toList, List.cons_append, List.nil_append, Int.toNat_natCast, mu_s, mu_c, mu_k, bI_i0, bI_i1, bI_n, nb_0, nb_1, bI_ft, bI_ff, Bool.false_eq_true, reduceCtorEq, Bool.true_eq_false, decide_true, decide_false, eq_self, Int.reduceAdd, Int.reduceSub, Int.reduceMul, Int.reduceNeg, Int.reduceToNat, tn30, tn31, tn32, tn20, tn21, q, e_X8_start_5, e_X8_start_21, this]
  · have e := tB_ge K.2.2.1 j (by omega)
    simp (disch := omega) only [↓reduceIte, ii_lit, ii_add, ii_sub, ii_mul, ii_neg, ii_lt_t, ii_lt_f, ii_le_t, ii_le_f, ii_eq_t, ii_eq_f, ii_in, ii_cl, ii_shr, ii_shl, ii_and1, ii_and255, Option.bind_some, Option.toList, List.cons_append, List.nil_append, Int.toNat_natCast, mu_s, mu_c, mu_k, bI_i0, bI_i1, bI_n, nb_0, nb_1, bI_ft, bI_ff, Bool.false_eq_true, reduceCtorEq, Bool.true_eq_false, decide_true, decide_false, eq_self, Int.reduceAdd, Int.reduceSub, Int.reduceMul, Int.reduceNeg, Int.reduceToNat, tn30, tn31, tn32, tn20, tn21, q, e_X8_start_5, e_X8_start_21, T.1, e]
theorem X8_isBracket_c {j : Nat} {ch : Int} (K : TokC c len N h.1 h.2.2) (T : TxtC c len h.1) (hj : j < 2000) (hc : i32 ch) : mx_C mm_X8_isBracket [.ref 1, .int (iI (j)), .int (iI (ch))] h = some (some (.int (bI (decide (tB c len j < len ∧ c (tB c len j) = ch)))), h) := by
  rw [c_X8_isBracket, e_X8_isBracket_0]
  obtain ⟨T1, T2, T3, T4⟩ := T
  have hN := K.2.2.2
  have K5 := K.1.1
  by_cases q : j ≤ N
  · have := tok_le K q
    have hle := tB_le (c := c) (len := len) j
    by_cases q1 : tB c len j < len
    · have := T4 _ q1
      have e2 := T2 _ q1
      by_cases q2 : c (tB c len j) = ch
      · rw [decide_eq_true ⟨q1, q2⟩]
        simp (disch := omega) only [↓reduceIte, ii_lit, ii_add, ii_sub, ii_mul, ii_neg, ii_lt_t, ii_lt_f, ii_le_t, ii_le_f, ii_eq_t, ii_eq_f, ii_in, ii_cl, ii_shr, ii_shl, ii_and1, ii_and255, Option.bind_some, Option.toList, List.cons_append, List.nil_append, Int.toNat_natCast, mu_s, mu_c, mu_k, bI_i0, bI_i1, bI_n, nb_0, nb_1, bI_ft, bI_ff, Bool.false_eq_true, reduceCtorEq, Bool.true_eq_false, decide_true, decide_false, eq_self, Int.reduceAdd, Int.reduceSub, Int.reduceMul, Int.reduceNeg, Int.reduceToNat, tn30, tn31, tn32, tn20, tn21, K5, T1, this, q, tok_le K q, e2, q2, e_X8_isBracket_45]
      · rw [decide_eq_false (fun z => q2 z.2)]
        simp (disch := omega) only [↓reduceIte, ii_lit, ii_add, ii_sub, ii_mul, ii_neg, ii_lt_t, ii_lt_f, ii_le_t, ii_le_f, ii_eq_t, ii_eq_f, ii_in, ii_cl, ii_shr, ii_shl, ii_and1, ii_and255, Option.bind_some, Option.toList, List.cons_append, List.nil_append, Int.toNat_natCast, mu_s, mu_c, mu_k, bI_i0, bI_i1, bI_n, nb_0, nb_1, bI_ft, bI_ff, Bool.false_eq_true, reduceCtorEq, Bool.true_eq_false, decide_true, decide_false, eq_self, Int.reduceAdd, Int.reduceSub, Int.reduceMul, Int.reduceNeg, Int.reduceToNat, tn30, tn31, tn32, tn20, tn21, K5, T1, this, q, tok_le K q, e2, e_X8_isBracket_44, e_X8_isBracket_45]
    · rw [decide_eq_false (fun z => q1 z.1)]
      simp (disch := omega) only [↓reduceIte, ii_lit, ii_add, ii_sub, ii_mul, ii_neg, ii_lt_t, ii_lt_f, ii_le_t, ii_le_f, ii_eq_t, ii_eq_f, ii_in, ii_cl, ii_shr, ii_shl, ii_and1, ii_and255, Option.bind_some, Option.toList, List.cons_append, List.nil_append, Int.toNat_natCast, mu_s, mu_c, mu_k, bI_i0, bI_i1, bI_n, nb_0, nb_1, bI_ft, bI_ff, Bool.false_eq_true, reduceCtorEq, Bool.true_eq_false, decide_true, decide_false, eq_self, Int.reduceAdd, Int.reduceSub, Int.reduceMul, Int.reduceNeg, Int.reduceToNat, tn30, tn31, tn32, tn20, tn21, K5, T1, this, q, tok_le K q, e_X8_isBracket_44, e_X8_isBracket_45]
  · have e := tB_ge K.2.2.1 j (by omega)
    rw [decide_eq_false (by omega)]
    simp (disch := omega) only [↓reduceIte, ii_lit, ii_add, ii_sub, ii_mul, ii_neg, ii_lt_t, ii_lt_f, ii_le_t, ii_le_f, ii_eq_t, ii_eq_f, ii_in, ii_cl, ii_shr, ii_shl, ii_and1, ii_and255, Option.bind_some, Option.toList, List.cons_append, List.nil_append, Int.toNat_natCast, mu_s, mu_c, mu_k, bI_i0, bI_i1, bI_n, nb_0, nb_1, bI_ft, bI_ff, Bool.false_eq_true, reduceCtorEq, Bool.true_eq_false, decide_true, decide_false, eq_self, Int.reduceAdd, Int.reduceSub, Int.reduceMul, Int.reduceNeg, Int.reduceToNat, tn30, tn31, tn32, tn20, tn21, K5, T1, q, e_X8_isBracket_44, e_X8_isBracket_45]
theorem X8_isEnd_c {j : Nat} (K : TokC c len N h.1 h.2.2) (T : TxtC c len h.1) (hj : j < 2000) : mx_C mm_X8_isEnd [.ref 1, .int (iI (j))] h = some (some (.int (bI (decide (tB c len j = len)))), h) := by
  have hb := tE_b (c := c) (len := len) (tB_le (c := c) (len := len) j)
  have hle := tB_le (c := c) (len := len) j
  rw [c_X8_isEnd, e_X8_isEnd_0, X8_sizeOf_c K T.2.2.1 hj]
  have T3 := T.2.2.1
  by_cases q : tB c len j = len
  · have e2 : tE c len (tB c len j) - tB c len j = 0 := by rw [q, tE_len]; omega
    simp (disch := omega) only [↓reduceIte, ii_lit, ii_add, ii_sub, ii_mul, ii_neg, ii_lt_t, ii_lt_f, ii_le_t, ii_le_f, ii_eq_t, ii_eq_f, ii_in, ii_cl, ii_shr, ii_shl, ii_and1, ii_and255, Option.bind_some, Option.toList, List.cons_append, List.nil_append, Int.toNat_natCast, mu_s, mu_c, mu_k, bI_i0, bI_i1, bI_n, nb_0, nb_1, bI_ft, bI_ff, Bool.false_eq_true, reduceCtorEq, Bool.true_eq_false, decide_true, decide_false, eq_self, Int.reduceAdd, Int.reduceSub, Int.reduceMul, Int.reduceNeg, Int.reduceToNat, tn30, tn31, tn32, tn20, tn21, q, e_X8_isEnd_5, e_X8_isEnd_13, e2]
    rw [tE_len]
    simp (disch := omega) only [↓reduceIte, ii_lit, ii_add, ii_sub, ii_mul, ii_neg, ii_lt_t, ii_lt_f, ii_le_t, ii_le_f, ii_eq_t, ii_eq_f, ii_in, ii_cl, ii_shr, ii_shl, ii_and1, ii_and255, Option.bind_some, Option.toList, List.cons_append, List.nil_append, Int.toNat_natCast, mu_s, mu_c, mu_k, bI_i0, bI_i1, bI_n, nb_0, nb_1, bI_ft, bI_ff, Bool.false_eq_true, reduceCtorEq, Bool.true_eq_false, decide_true, decide_false, eq_self, Int.reduceAdd, Int.reduceSub, Int.reduceMul, Int.reduceNeg, Int.reduceToNat, tn30, tn31, tn32, tn20, tn21, e_X8_isEnd_13]
  · rw [decide_eq_false q]
    simp (disch := omega) only [↓reduceIte, ii_lit, ii_add, ii_sub, ii_mul, ii_neg, ii_lt_t, ii_lt_f, ii_le_t, ii_le_f, ii_eq_t, ii_eq_f, ii_in, ii_cl, ii_shr, ii_shl, ii_and1, ii_and255, Option.bind_some, Option.toList, List.cons_append, List.nil_append, Int.toNat_natCast, mu_s, mu_c, mu_k, bI_i0, bI_i1, bI_n, nb_0, nb_1, bI_ft, bI_ff, Bool.false_eq_true, reduceCtorEq, Bool.true_eq_false, decide_true, decide_false, eq_self, Int.reduceAdd, Int.reduceSub, Int.reduceMul, Int.reduceNeg, Int.reduceToNat, tn30, tn31, tn32, tn20, tn21, e_X8_isEnd_5, e_X8_isEnd_13]
theorem X8_wordAt_c {j : Nat} (K : TokC c len N h.1 h.2.2) (hj : j < 2000) : mx_C mm_X8_wordAt [.ref 1, .int (iI (j))] h = some (some (mx_rf (wRf (wdx c (tB c len j) (tE c len (tB c len j))))), h) := by
  rw [c_X8_wordAt, e_X8_wordAt_0, X8_hasToken_c K.1.1 K.2.2.2 hj]
  have hN := K.2.2.2
  by_cases q : j ≤ N
  · have := tok_le K q
    simp (disch := omega) only [↓reduceIte, ii_lit, ii_add, ii_sub, ii_mul, ii_neg, ii_lt_t, ii_lt_f, ii_le_t, ii_le_f, ii_eq_t, ii_eq_f, ii_in, ii_cl, ii_shr, ii_shl, ii_and1, ii_and255, Option.bind_some, Option.toList, List.cons_append, List.nil_append, Int.toNat_natCast, mu_s, mu_c, mu_k, bI_i0, bI_i1, bI_n, nb_0, nb_1, bI_ft, bI_ff, Bool.false_eq_true, reduceCtorEq, Bool.true_eq_false, decide_true, decide_false, eq_self, Int.reduceAdd, Int.reduceSub, Int.reduceMul, Int.reduceNeg, Int.reduceToNat, tn30, tn31, tn32, tn20, tn21, q, e_X8_wordAt_5, e_X8_wordAt_18, this]
  · have e := tB_ge K.2.2.1 j (by omega)
    simp (disch := omega) only [↓reduceIte, ii_lit, ii_add, ii_sub, ii_mul, ii_neg, ii_lt_t, ii_lt_f, ii_le_t, ii_le_f, ii_eq_t, ii_eq_f, ii_in, ii_cl, ii_shr, ii_shl, ii_and1, ii_and255, Option.bind_some, Option.toList, List.cons_append, List.nil_append, Int.toNat_natCast, mu_s, mu_c, mu_k, bI_i0, bI_i1, bI_n, nb_0, nb_1, bI_ft, bI_ff, Bool.false_eq_true, reduceCtorEq, Bool.true_eq_false, decide_true, decide_false, eq_self, Int.reduceAdd, Int.reduceSub, Int.reduceMul, Int.reduceNeg, Int.reduceToNat, tn30, tn31, tn32, tn20, tn21, q, e_X8_wordAt_5]
    rw [e, tE_len, wdx_nil]
    exact e_X8_wordAt_18 _ none _
end TK
/-- a name's letters from i on, d of them, behind those in v -/
def beF (c : Nat → Int) : Nat → Nat → Int → Int
  | 0, _, v => v
  | d + 1, i, v => if isLet (c i) = true then beF c d (i + 1) (v * 256 + c i) else 0
def nameA (c : Nat → Int) (b e : Nat) : Int := if 1 ≤ e - b ∧ e - b ≤ 4 ∧ wdx c b e = none then beF c (e - b) b 0 else 0
def numF (c : Nat → Int) : Nat → Nat → Int → Int
  | 0, _, v => v
  | d + 1, i, v => if isDig (c i) = true then numF c d (i + 1) (10 * v + c i - 48) else -1
def numA (c : Nat → Int) (b e : Nat) : Int := if 1 ≤ e - b ∧ e - b ≤ 2 ∧ ¬ (e - b = 2 ∧ c b = 48) then numF c (e - b) b 0 else -1
def bitO (c : Nat → Int) : Nat → Nat → Bool
  | 0, _ => true
  | d + 1, i => if c i = 48 ∨ c i = 49 then bitO c d (i + 1) else false
def widA (c : Nat → Int) (b e : Nat) : Nat := if 3 ≤ e - b ∧ e - b ≤ 6 ∧ c b = 35 ∧ c (b + 1) = 98 ∧ bitO c (e - b - 2) (b + 2) = true then e - b - 2 else 0
def bitF (c : Nat → Int) : Nat → Nat → Int → Int
  | 0, _, v => v
  | d + 1, i, v => bitF c d (i + 1) (2 * v + c i - 48)
section TK2
variable {c : Nat → Int} {len N : Nat} {h : mx_H}
theorem or8 {v ch : Int} (hv : 0 ≤ v) (hc : 0 ≤ ch ∧ ch < 256) : iI (v * 256) ||| iI ch = iI (v * 256 + ch) := by
  obtain ⟨m, rfl⟩ : ∃ m : Nat, v = m := ⟨v.toNat, by omega⟩
  obtain ⟨n, rfl⟩ : ∃ n : Nat, ch = n := ⟨ch.toNat, by omega⟩
  rw [show (m : Int) * 256 = ((m * 256 : Nat) : Int) by omega, ii_orN]
  have : m * 256 ||| n = m * 256 + n := by
    have := Nat.shiftLeft_add_eq_or_of_lt (i := 8) (b := n) (by omega) m
    rw [Nat.shiftLeft_eq] at this
    exact this.symm
  rw [this]
  congr 1
theorem X8_nameAt_37 {j : Nat} (K : TokC c len N h.1 h.2.2) (T : TxtC c len h.1) (hj : j ≤ N) (v2 : Int32) : ∀ (d i : Nat) (v : Int), i + d = tE c len (tB c len j) → 0 ≤ v → mx_D (3, mm_X8_nameAt, 37, [.ref 1, .int (iI (j)), .int v2, .int (iI (v)), .int (iI (i))], []) h = some (some (.int (iI (beF c d i v))), h) := by
  have hb := tE_b (c := c) (len := len) (tB_le (c := c) (len := len) j)
  obtain ⟨T1, T2, T3, T4⟩ := T
  have hN := K.2.2.2
  have t := tok_le K hj
  intro d
  induction d with
  | zero =>
    intro i v hi hv
    rw [e_X8_nameAt_37]
    simp (disch := omega) only [↓reduceIte, ii_lit, ii_add, ii_sub, ii_mul, ii_neg, ii_lt_t, ii_lt_f, ii_le_t, ii_le_f, ii_eq_t, ii_eq_f, ii_in, ii_cl, ii_shr, ii_shl, ii_and1, ii_and255, Option.bind_some, Option.toList, List.cons_append, List.nil_append, Int.toNat_natCast, mu_s, mu_c, mu_k, bI_i0, bI_i1, bI_n, nb_0, nb_1, bI_ft, bI_ff, Bool.false_eq_true, reduceCtorEq, Bool.true_eq_false, decide_true, decide_false, eq_self, Int.reduceAdd, Int.reduceSub, Int.reduceMul, Int.reduceNeg, Int.reduceToNat, tn30, tn31, tn32, tn20, tn21, t]
    rfl
  | succ d ih =>
    intro i v hi hv
    have c1 := T4 i (by omega)
    rw [e_X8_nameAt_37]
    unfold beF
    by_cases q : isLet (c i) = true
    · simp (disch := omega) only [↓reduceIte, ii_lit, ii_add, ii_sub, ii_mul, ii_neg, ii_lt_t, ii_lt_f, ii_le_t, ii_le_f, ii_eq_t, ii_eq_f, ii_in, ii_cl, ii_shr, ii_shl, ii_and1, ii_and255, Option.bind_some, Option.toList, List.cons_append, List.nil_append, Int.toNat_natCast, mu_s, mu_c, mu_k, bI_i0, bI_i1, bI_n, nb_0, nb_1, bI_ft, bI_ff, Bool.false_eq_true, reduceCtorEq, Bool.true_eq_false, decide_true, decide_false, eq_self, Int.reduceAdd, Int.reduceSub, Int.reduceMul, Int.reduceNeg, Int.reduceToNat, tn30, tn31, tn32, tn20, tn21, t, T2, X8_isLetter_c, q, e_X8_nameAt_58]
      have := ih (i + 1) (v * 256 + c i) (by omega) (by omega)
      rw [← this, show v * 2 ^ 8 = v * 256 from rfl, or8 hv (by omega)]
      rfl
    · have q' : isLet (c i) = false := by simpa using q
      simp (disch := omega) only [↓reduceIte, ii_lit, ii_add, ii_sub, ii_mul, ii_neg, ii_lt_t, ii_lt_f, ii_le_t, ii_le_f, ii_eq_t, ii_eq_f, ii_in, ii_cl, ii_shr, ii_shl, ii_and1, ii_and255, Option.bind_some, Option.toList, List.cons_append, List.nil_append, Int.toNat_natCast, mu_s, mu_c, mu_k, bI_i0, bI_i1, bI_n, nb_0, nb_1, bI_ft, bI_ff, Bool.false_eq_true, reduceCtorEq, Bool.true_eq_false, decide_true, decide_false, eq_self, Int.reduceAdd, Int.reduceSub, Int.reduceMul, Int.reduceNeg, Int.reduceToNat, tn30, tn31, tn32, tn20, tn21, t, T2, X8_isLetter_c, q', e_X8_nameAt_58]
theorem rf_null {o : Option Nat} : ((mx_rf (wRf o) : Value) = .null) = (o = none) := by
  cases o with
  | none => exact propext ⟨fun _ => rfl, fun _ => rfl⟩
  | some i => exact propext ⟨fun q => (by cases q), fun q => (by cases q)⟩
theorem X8_nameAt_c {j : Nat} (K : TokC c len N h.1 h.2.2) (T : TxtC c len h.1) (hj : j < 2000) : mx_C mm_X8_nameAt [.ref 1, .int (iI (j))] h = some (some (.int (iI (nameA c (tB c len j) (tE c len (tB c len j))))), h) := by
  have hb := tE_b (c := c) (len := len) (tB_le (c := c) (len := len) j)
  have T3 := T.2.2.1
  have hN := K.2.2.2
  rw [c_X8_nameAt, e_X8_nameAt_0, X8_sizeOf_c K T3 hj]
  unfold nameA
  by_cases q1 : tE c len (tB c len j) - tB c len j < 1
  · simp (disch := omega) only [↓reduceIte, ii_lit, ii_add, ii_sub, ii_mul, ii_neg, ii_lt_t, ii_lt_f, ii_le_t, ii_le_f, ii_eq_t, ii_eq_f, ii_in, ii_cl, ii_shr, ii_shl, ii_and1, ii_and255, Option.bind_some, Option.toList, List.cons_append, List.nil_append, Int.toNat_natCast, mu_s, mu_c, mu_k, bI_i0, bI_i1, bI_n, nb_0, nb_1, bI_ft, bI_ff, Bool.false_eq_true, reduceCtorEq, Bool.true_eq_false, decide_true, decide_false, eq_self, Int.reduceAdd, Int.reduceSub, Int.reduceMul, Int.reduceNeg, Int.reduceToNat, tn30, tn31, tn32, tn20, tn21, e_X8_nameAt_5, e_X8_nameAt_25]
    rw [if_neg (by omega)]
  by_cases q2 : 4 < tE c len (tB c len j) - tB c len j
  · simp (disch := omega) only [↓reduceIte, ii_lit, ii_add, ii_sub, ii_mul, ii_neg, ii_lt_t, ii_lt_f, ii_le_t, ii_le_f, ii_eq_t, ii_eq_f, ii_in, ii_cl, ii_shr, ii_shl, ii_and1, ii_and255, Option.bind_some, Option.toList, List.cons_append, List.nil_append, Int.toNat_natCast, mu_s, mu_c, mu_k, bI_i0, bI_i1, bI_n, nb_0, nb_1, bI_ft, bI_ff, Bool.false_eq_true, reduceCtorEq, Bool.true_eq_false, decide_true, decide_false, eq_self, Int.reduceAdd, Int.reduceSub, Int.reduceMul, Int.reduceNeg, Int.reduceToNat, tn30, tn31, tn32, tn20, tn21, e_X8_nameAt_5, e_X8_nameAt_25]
    rw [if_neg (by omega)]
  have hj' : j ≤ N := by
    apply Decidable.byContradiction
    intro z
    have e := tB_ge K.2.2.1 j (by omega)
    rw [e, tE_len] at q1
    omega
  have t := tok_le K hj'
  by_cases q3 : wdx c (tB c len j) (tE c len (tB c len j)) = none
  · rw [if_pos ⟨by omega, by omega, q3⟩]
    simp (disch := omega) only [↓reduceIte, ii_lit, ii_add, ii_sub, ii_mul, ii_neg, ii_lt_t, ii_lt_f, ii_le_t, ii_le_f, ii_eq_t, ii_eq_f, ii_in, ii_cl, ii_shr, ii_shl, ii_and1, ii_and255, Option.bind_some, Option.toList, List.cons_append, List.nil_append, Int.toNat_natCast, mu_s, mu_c, mu_k, bI_i0, bI_i1, bI_n, nb_0, nb_1, bI_ft, bI_ff, Bool.false_eq_true, reduceCtorEq, Bool.true_eq_false, decide_true, decide_false, eq_self, Int.reduceAdd, Int.reduceSub, Int.reduceMul, Int.reduceNeg, Int.reduceToNat, tn30, tn31, tn32, tn20, tn21, e_X8_nameAt_5, e_X8_nameAt_25, t, rf_null, q3]
    exact X8_nameAt_37 K T hj' _ _ _ 0 (by omega) (by omega)
  · rw [if_neg (fun z => q3 z.2.2)]
    simp (disch := omega) only [↓reduceIte, ii_lit, ii_add, ii_sub, ii_mul, ii_neg, ii_lt_t, ii_lt_f, ii_le_t, ii_le_f, ii_eq_t, ii_eq_f, ii_in, ii_cl, ii_shr, ii_shl, ii_and1, ii_and255, Option.bind_some, Option.toList, List.cons_append, List.nil_append, Int.toNat_natCast, mu_s, mu_c, mu_k, bI_i0, bI_i1, bI_n, nb_0, nb_1, bI_ft, bI_ff, Bool.false_eq_true, reduceCtorEq, Bool.true_eq_false, decide_true, decide_false, eq_self, Int.reduceAdd, Int.reduceSub, Int.reduceMul, Int.reduceNeg, Int.reduceToNat, tn30, tn31, tn32, tn20, tn21, e_X8_nameAt_5, e_X8_nameAt_25, t, rf_null, q3]
theorem X8_numberAt_49 {j : Nat} (K : TokC c len N h.1 h.2.2) (T : TxtC c len h.1) (hj : j ≤ N) (v2 : Int32) : ∀ (d i : Nat) (v : Int), i + d = tE c len (tB c len j) → mx_D (3, mm_X8_numberAt, 49, [.ref 1, .int (iI (j)), .int v2, .int (iI (v)), .int (iI (i))], []) h = some (some (.int (iI (numF c d i v))), h) := by
  have hb := tE_b (c := c) (len := len) (tB_le (c := c) (len := len) j)
  obtain ⟨T1, T2, T3, T4⟩ := T
  have hN := K.2.2.2
  have t := tok_le K hj
  intro d
  induction d with
  | zero =>
    intro i v hi
    rw [e_X8_numberAt_49]
    simp (disch := omega) only [↓reduceIte, ii_lit, ii_add, ii_sub, ii_mul, ii_neg, ii_lt_t, ii_lt_f, ii_le_t, ii_le_f, ii_eq_t, ii_eq_f, ii_in, ii_cl, ii_shr, ii_shl, ii_and1, ii_and255, Option.bind_some, Option.toList, List.cons_append, List.nil_append, Int.toNat_natCast, mu_s, mu_c, mu_k, bI_i0, bI_i1, bI_n, nb_0, nb_1, bI_ft, bI_ff, Bool.false_eq_true, reduceCtorEq, Bool.true_eq_false, decide_true, decide_false, eq_self, Int.reduceAdd, Int.reduceSub, Int.reduceMul, Int.reduceNeg, Int.reduceToNat, tn30, tn31, tn32, tn20, tn21, t]
    rfl
  | succ d ih =>
    intro i v hi
    have c1 := T4 i (by omega)
    rw [e_X8_numberAt_49]
    unfold numF
    by_cases q : isDig (c i) = true
    · simp (disch := omega) only [↓reduceIte, ii_lit, ii_add, ii_sub, ii_mul, ii_neg, ii_lt_t, ii_lt_f, ii_le_t, ii_le_f, ii_eq_t, ii_eq_f, ii_in, ii_cl, ii_shr, ii_shl, ii_and1, ii_and255, Option.bind_some, Option.toList, List.cons_append, List.nil_append, Int.toNat_natCast, mu_s, mu_c, mu_k, bI_i0, bI_i1, bI_n, nb_0, nb_1, bI_ft, bI_ff, Bool.false_eq_true, reduceCtorEq, Bool.true_eq_false, decide_true, decide_false, eq_self, Int.reduceAdd, Int.reduceSub, Int.reduceMul, Int.reduceNeg, Int.reduceToNat, tn30, tn31, tn32, tn20, tn21, t, T2, X8_isDigit_c, q, e_X8_numberAt_70]
      exact ih (i + 1) _ (by omega)
    · have q' : isDig (c i) = false := by simpa using q
      simp (disch := omega) only [↓reduceIte, ii_lit, ii_add, ii_sub, ii_mul, ii_neg, ii_lt_t, ii_lt_f, ii_le_t, ii_le_f, ii_eq_t, ii_eq_f, ii_in, ii_cl, ii_shr, ii_shl, ii_and1, ii_and255, Option.bind_some, Option.toList, List.cons_append, List.nil_append, Int.toNat_natCast, mu_s, mu_c, mu_k, bI_i0, bI_i1, bI_n, nb_0, nb_1, bI_ft, bI_ff, Bool.false_eq_true, reduceCtorEq, Bool.true_eq_false, decide_true, decide_false, eq_self, Int.reduceAdd, Int.reduceSub, Int.reduceMul, Int.reduceNeg, Int.reduceToNat, tn30, tn31, tn32, tn20, tn21, t, T2, X8_isDigit_c, q', e_X8_numberAt_70]
theorem X8_numberAt_c {j : Nat} (K : TokC c len N h.1 h.2.2) (T : TxtC c len h.1) (hj : j < 2000) : mx_C mm_X8_numberAt [.ref 1, .int (iI (j))] h = some (some (.int (iI (numA c (tB c len j) (tE c len (tB c len j))))), h) := by
  have hb := tE_b (c := c) (len := len) (tB_le (c := c) (len := len) j)
  have hN := K.2.2.2
  rw [c_X8_numberAt, e_X8_numberAt_0, X8_sizeOf_c K T.2.2.1 hj]
  unfold numA
  by_cases q1 : tE c len (tB c len j) - tB c len j < 1
  · rw [if_neg (by omega)]
    have T3 := T.2.2.1
    simp (disch := omega) only [↓reduceIte, ii_lit, ii_add, ii_sub, ii_mul, ii_neg, ii_lt_t, ii_lt_f, ii_le_t, ii_le_f, ii_eq_t, ii_eq_f, ii_in, ii_cl, ii_shr, ii_shl, ii_and1, ii_and255, Option.bind_some, Option.toList, List.cons_append, List.nil_append, Int.toNat_natCast, mu_s, mu_c, mu_k, bI_i0, bI_i1, bI_n, nb_0, nb_1, bI_ft, bI_ff, Bool.false_eq_true, reduceCtorEq, Bool.true_eq_false, decide_true, decide_false, eq_self, Int.reduceAdd, Int.reduceSub, Int.reduceMul, Int.reduceNeg, Int.reduceToNat, tn30, tn31, tn32, tn20, tn21, e_X8_numberAt_5, e_X8_numberAt_37]
  by_cases q2 : 2 < tE c len (tB c len j) - tB c len j
  · rw [if_neg (by omega)]
    have T3 := T.2.2.1
    simp (disch := omega) only [↓reduceIte, ii_lit, ii_add, ii_sub, ii_mul, ii_neg, ii_lt_t, ii_lt_f, ii_le_t, ii_le_f, ii_eq_t, ii_eq_f, ii_in, ii_cl, ii_shr, ii_shl, ii_and1, ii_and255, Option.bind_some, Option.toList, List.cons_append, List.nil_append, Int.toNat_natCast, mu_s, mu_c, mu_k, bI_i0, bI_i1, bI_n, nb_0, nb_1, bI_ft, bI_ff, Bool.false_eq_true, reduceCtorEq, Bool.true_eq_false, decide_true, decide_false, eq_self, Int.reduceAdd, Int.reduceSub, Int.reduceMul, Int.reduceNeg, Int.reduceToNat, tn30, tn31, tn32, tn20, tn21, e_X8_numberAt_5, e_X8_numberAt_37]
  have hj' : j ≤ N := by
    apply Decidable.byContradiction
    intro z
    have e := tB_ge K.2.2.1 j (by omega)
    rw [e, tE_len] at q1
    omega
  have t := tok_le K hj'
  have t39 := X8_numberAt_49 K T hj' (iI ((tE c len (tB c len j) - tB c len j : Nat) : Int)) (tE c len (tB c len j) - tB c len j) (tB c len j) 0 (by omega)
  have c1 := T.2.2.2 (tB c len j) (by omega)
  have T2 := T.2.1
  have T3 := T.2.2.1
  by_cases q3 : tE c len (tB c len j) - tB c len j = 2
  · by_cases q4 : c (tB c len j) = 48
    · rw [if_neg (fun z => z.2.2 ⟨q3, q4⟩)]
      simp (disch := omega) only [↓reduceIte, ii_lit, ii_add, ii_sub, ii_mul, ii_neg, ii_lt_t, ii_lt_f, ii_le_t, ii_le_f, ii_eq_t, ii_eq_f, ii_in, ii_cl, ii_shr, ii_shl, ii_and1, ii_and255, Option.bind_some, Option.toList, List.cons_append, List.nil_append, Int.toNat_natCast, mu_s, mu_c, mu_k, bI_i0, bI_i1, bI_n, nb_0, nb_1, bI_ft, bI_ff, Bool.false_eq_true, reduceCtorEq, Bool.true_eq_false, decide_true, decide_false, eq_self, Int.reduceAdd, Int.reduceSub, Int.reduceMul, Int.reduceNeg, Int.reduceToNat, tn30, tn31, tn32, tn20, tn21, e_X8_numberAt_5, e_X8_numberAt_37, t, q4, T2]
    · rw [if_pos ⟨by omega, by omega, fun z => q4 z.2⟩]
      simp (disch := omega) only [↓reduceIte, ii_lit, ii_add, ii_sub, ii_mul, ii_neg, ii_lt_t, ii_lt_f, ii_le_t, ii_le_f, ii_eq_t, ii_eq_f, ii_in, ii_cl, ii_shr, ii_shl, ii_and1, ii_and255, Option.bind_some, Option.toList, List.cons_append, List.nil_append, Int.toNat_natCast, mu_s, mu_c, mu_k, bI_i0, bI_i1, bI_n, nb_0, nb_1, bI_ft, bI_ff, Bool.false_eq_true, reduceCtorEq, Bool.true_eq_false, decide_true, decide_false, eq_self, Int.reduceAdd, Int.reduceSub, Int.reduceMul, Int.reduceNeg, Int.reduceToNat, tn30, tn31, tn32, tn20, tn21, e_X8_numberAt_5, e_X8_numberAt_39, t, T2]
      exact t39
  · rw [if_pos ⟨by omega, by omega, fun z => q3 z.1⟩]
    simp (disch := omega) only [↓reduceIte, ii_lit, ii_add, ii_sub, ii_mul, ii_neg, ii_lt_t, ii_lt_f, ii_le_t, ii_le_f, ii_eq_t, ii_eq_f, ii_in, ii_cl, ii_shr, ii_shl, ii_and1, ii_and255, Option.bind_some, Option.toList, List.cons_append, List.nil_append, Int.toNat_natCast, mu_s, mu_c, mu_k, bI_i0, bI_i1, bI_n, nb_0, nb_1, bI_ft, bI_ff, Bool.false_eq_true, reduceCtorEq, Bool.true_eq_false, decide_true, decide_false, eq_self, Int.reduceAdd, Int.reduceSub, Int.reduceMul, Int.reduceNeg, Int.reduceToNat, tn30, tn31, tn32, tn20, tn21, e_X8_numberAt_5, e_X8_numberAt_39, t, T2]
    exact t39
end TK2
