/-! the reference's next -/
theorem in_t {a : Int} {n : Nat} (h : 0 ≤ a ∧ a < 2147483648 ∧ a < (n : Int)) : mx_in (iI a) n = true := (ii_in h).mpr trivial
theorem mu_uu {α : Type} (f : Nat → Nat → α) (a k : Nat) (x y : α) : mx_u (mx_u f a k x) a k y = mx_u f a k y := by
  funext b j
  unfold mx_u
  by_cases q : b = a ∧ j = k
  · rw [if_pos q, if_pos q]
  · rw [if_neg q, if_neg q, if_neg q]
theorem mu_id {α : Type} {f : Nat → Nat → α} {a k : Nat} {x : α} (h : f a k = x) : mx_u f a k x = f := by
  funext b j
  unfold mx_u
  by_cases q : b = a ∧ j = k
  · rw [if_pos q, q.1, q.2]; exact h.symm
  · rw [if_neg q]
theorem X11_isLetter_c {a : Int} (h : mx_H) (hr : i32 a) : mx_C mm_X11_isLetter [.int (iI (a))] h = some (some (.int (bI (isLet a))), h) := by
  rw [c_X11_isLetter, e_X11_isLetter_0, show mx_C mm_X11_in [.int (iI a), .int 65, .int 90] h = _ from X11_in_c (b := 65) (c := 90) h ⟨hr, by decide, by decide⟩]
  have e2 : mx_C mm_X11_in [.int (iI a), .int 97, .int 122] h = _ := X11_in_c (b := 97) (c := 122) h ⟨hr, by decide, by decide⟩
  have e2' : mx_C mm_X11_in [.int (iI a), .int (iI 97), .int (iI 122)] h = _ := e2
  by_cases q1 : 65 ≤ a ∧ a ≤ 90
  · have d1 : decide (65 ≤ a ∧ a ≤ 90) = true := decide_eq_true q1
    have d2 : isLet a = true := decide_eq_true (by omega)
    simp (disch := omega) only [↓reduceIte, ii_lit, ii_add, ii_sub, ii_mul, ii_neg, ii_lt_t, ii_lt_f, ii_le_t, ii_le_f, ii_eq_t, ii_eq_f, ii_in, ii_cl, ii_shr, ii_shl, ii_and1, ii_and255, Option.bind_some, Option.toList, List.cons_append, List.nil_append, Int.toNat_natCast, mu_s, mu_c, mu_k, bI_i0, bI_i1, bI_n, nb_0, nb_1, bI_ft, bI_ff, Bool.false_eq_true, reduceCtorEq, Bool.true_eq_false, decide_true, decide_false, eq_self, Int.reduceAdd, Int.reduceSub, Int.reduceMul, Int.reduceNeg, Int.reduceToNat, tn30, tn31, tn32, tn20, tn21, d1, d2, e_X11_isLetter_8, e_X11_isLetter_22, e_X11_isLetter_27]
  · have d1 : decide (65 ≤ a ∧ a ≤ 90) = false := decide_eq_false q1
    by_cases q2 : 97 ≤ a ∧ a ≤ 122
    · have d2 : isLet a = true := decide_eq_true (by omega)
      have d3 : decide (97 ≤ a ∧ a ≤ 122) = true := decide_eq_true q2
      simp (disch := omega) only [↓reduceIte, ii_lit, ii_add, ii_sub, ii_mul, ii_neg, ii_lt_t, ii_lt_f, ii_le_t, ii_le_f, ii_eq_t, ii_eq_f, ii_in, ii_cl, ii_shr, ii_shl, ii_and1, ii_and255, Option.bind_some, Option.toList, List.cons_append, List.nil_append, Int.toNat_natCast, mu_s, mu_c, mu_k, bI_i0, bI_i1, bI_n, nb_0, nb_1, bI_ft, bI_ff, Bool.false_eq_true, reduceCtorEq, Bool.true_eq_false, decide_true, decide_false, eq_self, Int.reduceAdd, Int.reduceSub, Int.reduceMul, Int.reduceNeg, Int.reduceToNat, tn30, tn31, tn32, tn20, tn21, d1, d2, d3, e2', e_X11_isLetter_8, e_X11_isLetter_19, e_X11_isLetter_22, e_X11_isLetter_27]
    · have d2 : isLet a = false := decide_eq_false (by omega)
      have d3 : decide (97 ≤ a ∧ a ≤ 122) = false := decide_eq_false q2
      simp (disch := omega) only [↓reduceIte, ii_lit, ii_add, ii_sub, ii_mul, ii_neg, ii_lt_t, ii_lt_f, ii_le_t, ii_le_f, ii_eq_t, ii_eq_f, ii_in, ii_cl, ii_shr, ii_shl, ii_and1, ii_and255, Option.bind_some, Option.toList, List.cons_append, List.nil_append, Int.toNat_natCast, mu_s, mu_c, mu_k, bI_i0, bI_i1, bI_n, nb_0, nb_1, bI_ft, bI_ff, Bool.false_eq_true, reduceCtorEq, Bool.true_eq_false, decide_true, decide_false, eq_self, Int.reduceAdd, Int.reduceSub, Int.reduceMul, Int.reduceNeg, Int.reduceToNat, tn30, tn31, tn32, tn20, tn21, d1, d2, d3, e2', e_X11_isLetter_8, e_X11_isLetter_19, e_X11_isLetter_22, e_X11_isLetter_27]
theorem X11_isDigit_c {a : Int} (h : mx_H) (hr : i32 a) : mx_C mm_X11_isDigit [.int (iI (a))] h = some (some (.int (bI (isDig a))), h) := by
  rw [c_X11_isDigit, e_X11_isDigit_0, show mx_C mm_X11_in [.int (iI a), .int 48, .int 57] h = _ from X11_in_c (b := 48) (c := 57) h ⟨hr, by decide, by decide⟩]
  simp (disch := omega) only [↓reduceIte, ii_lit, ii_add, ii_sub, ii_mul, ii_neg, ii_lt_t, ii_lt_f, ii_le_t, ii_le_f, ii_eq_t, ii_eq_f, ii_in, ii_cl, ii_shr, ii_shl, ii_and1, ii_and255, Option.bind_some, Option.toList, List.cons_append, List.nil_append, Int.toNat_natCast, mu_s, mu_c, mu_k, bI_i0, bI_i1, bI_n, nb_0, nb_1, bI_ft, bI_ff, Bool.false_eq_true, reduceCtorEq, Bool.true_eq_false, decide_true, decide_false, eq_self, Int.reduceAdd, Int.reduceSub, Int.reduceMul, Int.reduceNeg, Int.reduceToNat, tn30, tn31, tn32, tn20, tn21, e_X11_isDigit_8]
  rfl
theorem X11_isSign_c {a : Int} (h : mx_H) (hr : i32 a) : mx_C mm_X11_isSign [.int (iI (a))] h = some (some (.int (bI (isSy a))), h) := by
  rw [c_X11_isSign, e_X11_isSign_0, X11_isLetter_c h hr]
  have dl : isLet a = decide ((97 ≤ a ∧ a ≤ 122) ∨ (65 ≤ a ∧ a ≤ 90)) := rfl
  have dd : isDig a = decide (48 ≤ a ∧ a ≤ 57) := rfl
  by_cases q1 : (97 ≤ a ∧ a ≤ 122) ∨ (65 ≤ a ∧ a ≤ 90)
  · have d1 : isLet a = true := decide_eq_true q1
    have d2 : isSy a = true := decide_eq_true (by omega)
    simp (disch := omega) only [↓reduceIte, ii_lit, ii_add, ii_sub, ii_mul, ii_neg, ii_lt_t, ii_lt_f, ii_le_t, ii_le_f, ii_eq_t, ii_eq_f, ii_in, ii_cl, ii_shr, ii_shl, ii_and1, ii_and255, Option.bind_some, Option.toList, List.cons_append, List.nil_append, Int.toNat_natCast, mu_s, mu_c, mu_k, bI_i0, bI_i1, bI_n, nb_0, nb_1, bI_ft, bI_ff, Bool.false_eq_true, reduceCtorEq, Bool.true_eq_false, decide_true, decide_false, eq_self, Int.reduceAdd, Int.reduceSub, Int.reduceMul, Int.reduceNeg, Int.reduceToNat, tn30, tn31, tn32, tn20, tn21, d1, d2, e_X11_isSign_4, e_X11_isSign_44, e_X11_isSign_49]
  · have d1 : isLet a = false := decide_eq_false q1
    by_cases q2 : 48 ≤ a ∧ a ≤ 57
    · have d3 : isDig a = true := decide_eq_true q2
      have d2 : isSy a = true := decide_eq_true (by omega)
      simp (disch := omega) only [↓reduceIte, ii_lit, ii_add, ii_sub, ii_mul, ii_neg, ii_lt_t, ii_lt_f, ii_le_t, ii_le_f, ii_eq_t, ii_eq_f, ii_in, ii_cl, ii_shr, ii_shl, ii_and1, ii_and255, Option.bind_some, Option.toList, List.cons_append, List.nil_append, Int.toNat_natCast, mu_s, mu_c, mu_k, bI_i0, bI_i1, bI_n, nb_0, nb_1, bI_ft, bI_ff, Bool.false_eq_true, reduceCtorEq, Bool.true_eq_false, decide_true, decide_false, eq_self, Int.reduceAdd, Int.reduceSub, Int.reduceMul, Int.reduceNeg, Int.reduceToNat, tn30, tn31, tn32, tn20, tn21, d1, d2, d3, X11_isDigit_c, e_X11_isSign_4, e_X11_isSign_11, e_X11_isSign_44, e_X11_isSign_49]
    · have d3 : isDig a = false := decide_eq_false q2
      by_cases p1 : a = 45
      · have d2 : isSy a = true := decide_eq_true (by omega)
        simp (disch := omega) only [↓reduceIte, ii_lit, ii_add, ii_sub, ii_mul, ii_neg, ii_lt_t, ii_lt_f, ii_le_t, ii_le_f, ii_eq_t, ii_eq_f, ii_in, ii_cl, ii_shr, ii_shl, ii_and1, ii_and255, Option.bind_some, Option.toList, List.cons_append, List.nil_append, Int.toNat_natCast, mu_s, mu_c, mu_k, bI_i0, bI_i1, bI_n, nb_0, nb_1, bI_ft, bI_ff, Bool.false_eq_true, reduceCtorEq, Bool.true_eq_false, decide_true, decide_false, eq_self, Int.reduceAdd, Int.reduceSub, Int.reduceMul, Int.reduceNeg, Int.reduceToNat, tn30, tn31, tn32, tn20, tn21, d1, d2, d3, X11_isDigit_c, e_X11_isSign_4, e_X11_isSign_11, e_X11_isSign_44, e_X11_isSign_49]
      by_cases p2 : a = 95
      · have d2 : isSy a = true := decide_eq_true (by omega)
        simp (disch := omega) only [↓reduceIte, ii_lit, ii_add, ii_sub, ii_mul, ii_neg, ii_lt_t, ii_lt_f, ii_le_t, ii_le_f, ii_eq_t, ii_eq_f, ii_in, ii_cl, ii_shr, ii_shl, ii_and1, ii_and255, Option.bind_some, Option.toList, List.cons_append, List.nil_append, Int.toNat_natCast, mu_s, mu_c, mu_k, bI_i0, bI_i1, bI_n, nb_0, nb_1, bI_ft, bI_ff, Bool.false_eq_true, reduceCtorEq, Bool.true_eq_false, decide_true, decide_false, eq_self, Int.reduceAdd, Int.reduceSub, Int.reduceMul, Int.reduceNeg, Int.reduceToNat, tn30, tn31, tn32, tn20, tn21, d1, d2, d3, X11_isDigit_c, e_X11_isSign_4, e_X11_isSign_11, e_X11_isSign_44, e_X11_isSign_49]
      by_cases p3 : a = 61
      · have d2 : isSy a = true := decide_eq_true (by omega)
        simp (disch := omega) only [↓reduceIte, ii_lit, ii_add, ii_sub, ii_mul, ii_neg, ii_lt_t, ii_lt_f, ii_le_t, ii_le_f, ii_eq_t, ii_eq_f, ii_in, ii_cl, ii_shr, ii_shl, ii_and1, ii_and255, Option.bind_some, Option.toList, List.cons_append, List.nil_append, Int.toNat_natCast, mu_s, mu_c, mu_k, bI_i0, bI_i1, bI_n, nb_0, nb_1, bI_ft, bI_ff, Bool.false_eq_true, reduceCtorEq, Bool.true_eq_false, decide_true, decide_false, eq_self, Int.reduceAdd, Int.reduceSub, Int.reduceMul, Int.reduceNeg, Int.reduceToNat, tn30, tn31, tn32, tn20, tn21, d1, d2, d3, X11_isDigit_c, e_X11_isSign_4, e_X11_isSign_11, e_X11_isSign_44, e_X11_isSign_49]
      by_cases p4 : a = 62
      · have d2 : isSy a = true := decide_eq_true (by omega)
        simp (disch := omega) only [↓reduceIte, ii_lit, ii_add, ii_sub, ii_mul, ii_neg, ii_lt_t, ii_lt_f, ii_le_t, ii_le_f, ii_eq_t, ii_eq_f, ii_in, ii_cl, ii_shr, ii_shl, ii_and1, ii_and255, Option.bind_some, Option.toList, List.cons_append, List.nil_append, Int.toNat_natCast, mu_s, mu_c, mu_k, bI_i0, bI_i1, bI_n, nb_0, nb_1, bI_ft, bI_ff, Bool.false_eq_true, reduceCtorEq, Bool.true_eq_false, decide_true, decide_false, eq_self, Int.reduceAdd, Int.reduceSub, Int.reduceMul, Int.reduceNeg, Int.reduceToNat, tn30, tn31, tn32, tn20, tn21, d1, d2, d3, X11_isDigit_c, e_X11_isSign_4, e_X11_isSign_11, e_X11_isSign_44, e_X11_isSign_49]
      by_cases p5 : a = 35
      · have d2 : isSy a = true := decide_eq_true (by omega)
        simp (disch := omega) only [↓reduceIte, ii_lit, ii_add, ii_sub, ii_mul, ii_neg, ii_lt_t, ii_lt_f, ii_le_t, ii_le_f, ii_eq_t, ii_eq_f, ii_in, ii_cl, ii_shr, ii_shl, ii_and1, ii_and255, Option.bind_some, Option.toList, List.cons_append, List.nil_append, Int.toNat_natCast, mu_s, mu_c, mu_k, bI_i0, bI_i1, bI_n, nb_0, nb_1, bI_ft, bI_ff, Bool.false_eq_true, reduceCtorEq, Bool.true_eq_false, decide_true, decide_false, eq_self, Int.reduceAdd, Int.reduceSub, Int.reduceMul, Int.reduceNeg, Int.reduceToNat, tn30, tn31, tn32, tn20, tn21, d1, d2, d3, X11_isDigit_c, e_X11_isSign_4, e_X11_isSign_11, e_X11_isSign_44, e_X11_isSign_49]
      have d2 : isSy a = false := decide_eq_false (by omega)
      simp (disch := omega) only [↓reduceIte, ii_lit, ii_add, ii_sub, ii_mul, ii_neg, ii_lt_t, ii_lt_f, ii_le_t, ii_le_f, ii_eq_t, ii_eq_f, ii_in, ii_cl, ii_shr, ii_shl, ii_and1, ii_and255, Option.bind_some, Option.toList, List.cons_append, List.nil_append, Int.toNat_natCast, mu_s, mu_c, mu_k, bI_i0, bI_i1, bI_n, nb_0, nb_1, bI_ft, bI_ff, Bool.false_eq_true, reduceCtorEq, Bool.true_eq_false, decide_true, decide_false, eq_self, Int.reduceAdd, Int.reduceSub, Int.reduceMul, Int.reduceNeg, Int.reduceToNat, tn30, tn31, tn32, tn20, tn21, d1, d2, d3, X11_isDigit_c, e_X11_isSign_4, e_X11_isSign_11, e_X11_isSign_44, e_X11_isSign_49]
def NxF (h h' : mx_H) : Prop := (∀ a k, (a ≠ 47 ∨ (k ≠ 2 ∧ k ≠ 3 ∧ k ≠ 4)) → h'.1 a k = h.1 a k) ∧ (∀ a k, (a ≠ 47 ∨ (k ≠ 5 ∧ k ≠ 6)) → h'.2.1 a k = h.2.1 a k) ∧ h'.2.2 = h.2.2
theorem NxF_r {h : mx_H} : NxF h h := ⟨fun _ _ _ => rfl, fun _ _ _ => rfl, rfl⟩
theorem NxF_t {h h1 h2 : mx_H} (a : NxF h h1) (b : NxF h1 h2) : NxF h h2 := ⟨fun x k z => by rw [b.1 x k z, a.1 x k z], fun x k z => by rw [b.2.1 x k z, a.2.1 x k z], by rw [b.2.2, a.2.2]⟩
theorem TxtM_n {c : Nat → Int} {len : Nat} {h h' : mx_H} (F : NxF h h') (T : TxtM c len h.1) : TxtM c len h'.1 := by
  obtain ⟨a, b, d⟩ := T
  exact ⟨by rw [F.1 _ _ (by decide)]; exact a, fun i hi => by rw [F.1 _ _ (by omega)]; exact b i hi, d⟩
section NX
variable {c : Nat → Int} {len : Nat}
theorem X11_next_0 : ∀ (d e : Nat) (h : mx_H), e + d = len → TxtM c len h.1 → h.1 47 4 = iI (e : Int) → mx_D (4, mm_X11_next, 0, [.ref 47, mx_junk], []) h = mx_D (4, mm_X11_next, 38, [.ref 47, mx_junk], []) (mx_u h.1 47 4 (iI (sk c len e : Int)), h.2.1, h.2.2) := by
  intro d
  induction d with
  | zero =>
    intro e h hd T he
    obtain ⟨T1, T2, T3, T4⟩ := T
    rw [e_X11_next_0, sk_f (by omega), mu_id he]
    simp (disch := omega) only [↓reduceIte, ii_lit, ii_add, ii_sub, ii_mul, ii_neg, ii_lt_t, ii_lt_f, ii_le_t, ii_le_f, ii_eq_t, ii_eq_f, ii_in, ii_cl, ii_shr, ii_shl, ii_and1, ii_and255, Option.bind_some, Option.toList, List.cons_append, List.nil_append, Int.toNat_natCast, mu_s, mu_c, mu_k, bI_i0, bI_i1, bI_n, nb_0, nb_1, bI_ft, bI_ff, Bool.false_eq_true, reduceCtorEq, Bool.true_eq_false, decide_true, decide_false, eq_self, Int.reduceAdd, Int.reduceSub, Int.reduceMul, Int.reduceNeg, Int.reduceToNat, tn30, tn31, tn32, tn20, tn21, T1, he]
  | succ d ih =>
    intro e h hd T he
    obtain ⟨T1, T2, T3, T4⟩ := id T
    have q := T2 e (by omega)
    have b := T4 e (by omega)
    rw [e_X11_next_0]
    by_cases p : c e = 32
    · have T' : TxtM c len (mx_u h.1 47 4 (iI ((e : Int) + 1))) := ⟨by rw [mu_k _ _ (by decide)]; exact T1, fun i hi => by rw [mu_c _ _ _ _ (by decide)]; exact T2 i hi, T3, T4⟩
      have := ih (e + 1) (mx_u h.1 47 4 (iI ((e : Int) + 1)), h.2.1, h.2.2) (by omega) T' (by dsimp only; rw [mu_s]; rfl)
      simp (disch := omega) only [↓reduceIte, ii_lit, ii_add, ii_sub, ii_mul, ii_neg, ii_lt_t, ii_lt_f, ii_le_t, ii_le_f, ii_eq_t, ii_eq_f, ii_in, ii_cl, ii_shr, ii_shl, ii_and1, ii_and255, Option.bind_some, Option.toList, List.cons_append, List.nil_append, Int.toNat_natCast, mu_s, mu_c, mu_k, bI_i0, bI_i1, bI_n, nb_0, nb_1, bI_ft, bI_ff, Bool.false_eq_true, reduceCtorEq, Bool.true_eq_false, decide_true, decide_false, eq_self, Int.reduceAdd, Int.reduceSub, Int.reduceMul, Int.reduceNeg, Int.reduceToNat, tn30, tn31, tn32, tn20, tn21, T1, he, q, p]
      rw [sk_t ⟨by omega, p⟩]
      refine Eq.trans this ?_
      dsimp only
      rw [mu_uu]
    · rw [sk_f (fun z => p z.2), mu_id he]
      simp (disch := omega) only [↓reduceIte, ii_lit, ii_add, ii_sub, ii_mul, ii_neg, ii_lt_t, ii_lt_f, ii_le_t, ii_le_f, ii_eq_t, ii_eq_f, ii_in, ii_cl, ii_shr, ii_shl, ii_and1, ii_and255, Option.bind_some, Option.toList, List.cons_append, List.nil_append, Int.toNat_natCast, mu_s, mu_c, mu_k, bI_i0, bI_i1, bI_n, nb_0, nb_1, bI_ft, bI_ff, Bool.false_eq_true, reduceCtorEq, Bool.true_eq_false, decide_true, decide_false, eq_self, Int.reduceAdd, Int.reduceSub, Int.reduceMul, Int.reduceNeg, Int.reduceToNat, tn30, tn31, tn32, tn20, tn21, T1, he, q]
theorem tkL_s {b k : Nat} : tkL c b (b + (k + 1)) = tkL c b (b + k) ++ [(c (b + k)).toNat] := by
  unfold tkL
  rw [show b + (k + 1) - b = k + 1 by omega, show b + k - b = k by omega, List.range_succ, List.map_append]
  rfl
theorem lo_s {b k : Nat} (hb : ∀ i, i ≤ k → 32 ≤ c (b + i) ∧ c (b + i) ≤ 126) : (k < 8 → loL (tkL c b (b + k)) ||| ((iI (c (b + k))).toInt64 <<< ((iI (8 * (k : Int))).toInt64 &&& 63)) = loL (tkL c b (b + (k + 1)))) ∧ (8 ≤ k → loL (tkL c b (b + (k + 1))) = loL (tkL c b (b + k))) := by
  have l := tkL_len c b (b + k)
  rw [show b + k - b = k by omega] at l
  have x := hb k (Nat.le_refl _)
  constructor
  · intro hk
    unfold loL
    rw [tkL_s, List.take_of_length_le (l := tkL c b (b + k)) (by omega), List.take_of_length_le (by rw [List.length_append]; simp only [List.length_singleton]; omega), pkN_app, l]
    have : iI (c (b + k)) = iI (((c (b + k)).toNat : Nat) : Int) := by rw [Int.toNat_of_nonneg (by omega)]
    rw [this]
    refine i64_sh ?_ (by omega) hk
    have := pkN_lt (tkL c b (b + k)) (fun y hy => by
      unfold tkL at hy
      obtain ⟨i, hi, rfl⟩ := List.mem_map.mp hy
      have := hb i (by have := List.mem_range.mp hi; omega)
      omega)
    rw [l] at this
    exact this
  · intro hk
    unfold loL
    rw [tkL_s, List.take_append_of_le_length (by omega)]
theorem hi_s {b k : Nat} (hb : ∀ i, i ≤ k → 32 ≤ c (b + i) ∧ c (b + i) ≤ 126) : (8 ≤ k ∧ k ≤ 14 → hiL (tkL c b (b + k)) ||| ((iI (c (b + k))).toInt64 <<< ((iI (8 * ((k : Int) - 8))).toInt64 &&& 63)) = hiL (tkL c b (b + (k + 1)))) ∧ (¬ (8 ≤ k ∧ k ≤ 14) → hiL (tkL c b (b + (k + 1))) = hiL (tkL c b (b + k))) := by
  have l := tkL_len c b (b + k)
  rw [show b + k - b = k by omega] at l
  have x := hb k (Nat.le_refl _)
  have ld : ((tkL c b (b + k)).drop 8).length = k - 8 := by rw [List.length_drop, l]
  constructor
  · intro hk
    unfold hiL
    rw [tkL_s, List.drop_append_of_le_length (by omega), List.take_of_length_le (l := (tkL c b (b + k)).drop 8) (by omega), List.take_of_length_le (by rw [List.length_append]; simp only [List.length_singleton]; omega), pkN_app, ld]
    have : iI (c (b + k)) = iI (((c (b + k)).toNat : Nat) : Int) := by rw [Int.toNat_of_nonneg (by omega)]
    rw [this, show (8 * ((k : Int) - 8)) = 8 * ((k - 8 : Nat) : Int) by omega]
    refine i64_sh ?_ (by omega) (by omega)
    have := pkN_lt ((tkL c b (b + k)).drop 8) (fun y hy => by
      have hy := List.mem_of_mem_drop hy
      unfold tkL at hy
      obtain ⟨i, hi, rfl⟩ := List.mem_map.mp hy
      have := hb i (by have := List.mem_range.mp hi; omega)
      omega)
    rw [ld] at this
    exact this
  · intro hk
    unfold hiL
    rw [tkL_s]
    by_cases z : k < 8
    · rw [List.drop_of_length_le (by rw [List.length_append]; simp only [List.length_singleton]; omega), List.drop_of_length_le (by omega)]
    · rw [List.drop_append_of_le_length (by omega), List.take_append_of_le_length (by omega)]
theorem X11_next_56 {b : Nat} : ∀ (d k : Nat) (h : mx_H) (v1 : Value), b + k + d = len → TxtM c len h.1 → h.1 47 3 = iI (b : Int) → h.1 47 4 = iI ((b + k : Nat) : Int) → h.2.1 47 5 = loL (tkL c b (b + k)) → h.2.1 47 6 = hiL (tkL c b (b + k)) → ∃ h' v', mx_D (4, mm_X11_next, 56, [.ref 47, v1], []) h = mx_D (4, mm_X11_next, 187, [.ref 47, v'], []) h' ∧ NxF h h' ∧ h'.1 47 3 = iI (b : Int) ∧ h'.1 47 4 = iI (sy c len (b + k) : Int) ∧ h'.2.1 47 5 = loL (tkL c b (sy c len (b + k))) ∧ h'.2.1 47 6 = hiL (tkL c b (sy c len (b + k))) := by
  intro d
  induction d with
  | zero =>
    intro k h v1 hd T h3 h4 h5 h6
    obtain ⟨T1, T2, T3, T4⟩ := T
    rw [sy_f (by omega)]
    refine ⟨h, v1, ?_, NxF_r, h3, h4, h5, h6⟩
    rw [e_X11_next_56]
    simp (disch := omega) only [↓reduceIte, ii_lit, ii_add, ii_sub, ii_mul, ii_neg, ii_lt_t, ii_lt_f, ii_le_t, ii_le_f, ii_eq_t, ii_eq_f, ii_in, ii_cl, ii_shr, ii_shl, ii_and1, ii_and255, Option.bind_some, Option.toList, List.cons_append, List.nil_append, Int.toNat_natCast, mu_s, mu_c, mu_k, bI_i0, bI_i1, bI_n, nb_0, nb_1, bI_ft, bI_ff, Bool.false_eq_true, reduceCtorEq, Bool.true_eq_false, decide_true, decide_false, eq_self, Int.reduceAdd, Int.reduceSub, Int.reduceMul, Int.reduceNeg, Int.reduceToNat, tn30, tn31, tn32, tn20, tn21, T1, h4]
  | succ d ih =>
    intro k h v1 hd T h3 h4 h5 h6
    obtain ⟨T1, T2, T3, T4⟩ := id T
    have q := T2 (b + k) (by omega)
    have bb := T4 (b + k) (by omega)
    have hb : ∀ i, i ≤ k → 32 ≤ c (b + i) ∧ c (b + i) ≤ 126 := fun i hi => T4 (b + i) (by omega)
    rw [e_X11_next_56]
    by_cases p : isSy (c (b + k)) = true
    · rw [sy_t ⟨by omega, p⟩]
      have ls := lo_s hb
      have hs := hi_s hb
      have e3 : ((b + k : Nat) : Int) - (b : Int) = (k : Int) := by omega
      have step : ∃ v, (if h.1 47 1 ≤ h.1 47 4 then mx_D (4, mm_X11_next, 187, [.ref 47, v1], []) h else if mx_in (h.1 47 4) 120 = true then (mx_C mm_X11_isSign [.int (h.1 48 ((h.1 47 4).toNatClampNeg))] h).bind (fun o => mx_D (4, mm_X11_next, 79, [.ref 47, v1], o.1.toList ++ []) o.2) else none) = mx_D (4, mm_X11_next, 56, [.ref 47, v], []) (mx_u h.1 47 4 (iI ((b + (k + 1) : Nat) : Int)), mx_u (mx_u h.2.1 47 5 (loL (tkL c b (b + (k + 1))))) 47 6 (hiL (tkL c b (b + (k + 1)))), h.2.2) := by
        refine ⟨.int (iI ((k : Int))), ?_⟩
        have i1 : mx_C mm_X11_in [.int (iI (k : Int)), .int 8, .int 14] (h.1, mx_u h.2.1 47 5 (loL (tkL c b (b + (k + 1)))), h.2.2) = _ := X11_in_c (b := 8) (c := 14) _ ⟨by omega, by decide, by decide⟩
        have st1 : mx_D (4, mm_X11_next, 79, [.ref 47, v1], [.int (bI true)]) h = mx_D (4, mm_X11_next, 126, [.ref 47, .int (iI ((k : Int)))], [.long (loL (tkL c b (b + (k + 1)))), .ref 47]) h := by
          rw [e_X11_next_79, if_neg (show ¬ bI true = 0 by decide), h3, h4, ii_sub, e3]
          by_cases k8 : 8 ≤ k
          · rw [if_pos (show (8 : Int32) ≤ iI (k : Int) from (ii_le (a := 8) (by omega)).mpr (by omega)), h5, ls.2 k8]
          · rw [if_neg (show ¬ (8 : Int32) ≤ iI (k : Int) from fun z => by have := (ii_le (a := 8) (by omega)).mp z; omega), if_pos (in_t (a := ((b + k : Nat) : Int)) (n := 120) (by omega)), h5, ii_cl (by omega), Int.toNat_natCast, q, show (8 : Int32) = iI 8 from rfl, ii_mul, ls.1 (by omega)]
        have st2 : mx_D (4, mm_X11_next, 138, [.ref 47, .int (iI ((k : Int)))], [.int (bI (decide (8 ≤ (k : Int) ∧ (k : Int) ≤ 14))), .ref 47]) (h.1, mx_u h.2.1 47 5 (loL (tkL c b (b + (k + 1)))), h.2.2) = mx_D (4, mm_X11_next, 171, [.ref 47, .int (iI ((k : Int)))], [.long (hiL (tkL c b (b + (k + 1)))), .ref 47]) (h.1, mx_u h.2.1 47 5 (loL (tkL c b (b + (k + 1)))), h.2.2) := by
          rw [e_X11_next_138]
          by_cases k8 : 8 ≤ k ∧ k ≤ 14
          · rw [decide_eq_true (show 8 ≤ (k : Int) ∧ (k : Int) ≤ 14 by omega), if_neg (show ¬ bI true = 0 by decide)]
            dsimp only
            rw [h4, if_pos (in_t (a := ((b + k : Nat) : Int)) (n := 120) (by omega)), mu_k _ _ (by decide), h6, ii_cl (by omega), Int.toNat_natCast, q, show (8 : Int32) = iI 8 from rfl, ii_sub, ii_mul, hs.1 k8]
          · rw [decide_eq_false (show ¬ (8 ≤ (k : Int) ∧ (k : Int) ≤ 14) by omega), if_pos (show bI false = 0 from rfl)]
            dsimp only
            rw [mu_k _ _ (by decide), h6, hs.2 k8]
        rw [T1, h4, if_neg (fun z => by have := (ii_le (by omega)).mp z; omega), if_pos (in_t (a := ((b + k : Nat) : Int)) (n := 120) (by omega)), ii_cl (by omega), Int.toNat_natCast, q, X11_isSign_c h (by omega), p]
        refine Eq.trans st1 ?_
        rw [e_X11_next_126, i1]
        refine Eq.trans st2 ?_
        rw [e_X11_next_171]
        dsimp only
        rw [h4, ii_s1]
        rfl
      obtain ⟨v, step⟩ := step
      rw [step]
      have T' : TxtM c len (mx_u h.1 47 4 (iI ((b + (k + 1) : Nat) : Int))) := ⟨by rw [mu_k _ _ (by decide)]; exact T1, fun i hi => by rw [mu_c _ _ _ _ (by decide)]; exact T2 i hi, T3, T4⟩
      obtain ⟨h', v', a1, a2, a3, a4, a5, a6⟩ := ih (k + 1) (mx_u h.1 47 4 (iI ((b + (k + 1) : Nat) : Int)), mx_u (mx_u h.2.1 47 5 (loL (tkL c b (b + (k + 1))))) 47 6 (hiL (tkL c b (b + (k + 1)))), h.2.2) v (by omega) T' (by dsimp only; rw [mu_k _ _ (by decide)]; exact h3) (by dsimp only; rw [mu_s]) (by dsimp only; rw [mu_k _ _ (by decide), mu_s]) (by dsimp only; rw [mu_s])
      refine ⟨h', v', a1, NxF_t ?_ a2, a3, a4, a5, a6⟩
      refine ⟨fun a k z => ?_, fun a k z => ?_, rfl⟩
      · dsimp only [mx_u]; rw [if_neg (by omega)]
      · dsimp only [mx_u]; rw [if_neg (by omega), if_neg (by omega)]
    · rw [sy_f (fun z => p z.2)]
      have p' : isSy (c (b + k)) = false := by simpa using p
      refine ⟨h, v1, ?_, NxF_r, h3, h4, h5, h6⟩
      rw [T1, h4, if_neg (fun z => by have := (ii_le (by omega)).mp z; omega), if_pos (in_t (a := ((b + k : Nat) : Int)) (n := 120) (by omega)), ii_cl (by omega), Int.toNat_natCast, q, X11_isSign_c h (by omega), p']
      refine Eq.trans (e_X11_next_79 ..) ?_
      rw [if_pos (show bI false = 0 from rfl)]
/-- the sort of the token that begins at b -/
def tso (c : Nat → Int) (len b : Nat) : Int := if b < len then (if isSy (c b) = true then (if 13 < sy c len b - b then 4 else 3) else if c b = 40 then 1 else if c b = 41 then 2 else 4) else 0
/-- the characters of a symbol, else nothing -/
def tsL (c : Nat → Int) (len b : Nat) : List Nat := tkL c b (sy c len b)
def TkM (c : Nat → Int) (len b : Nat) (h : mx_H) : Prop := h.1 47 3 = iI (b : Int) ∧ h.1 47 4 = iI (tE c len b : Int) ∧ h.1 47 2 = iI (tso c len b) ∧ h.2.1 47 5 = loL (tsL c len b) ∧ h.2.1 47 6 = hiL (tsL c len b)
theorem X11_next_c {e : Nat} {h : mx_H} (T : TxtM c len h.1) (he : h.1 47 4 = iI (e : Int)) (hl : e ≤ len) : ∃ h', mx_C mm_X11_next [.ref 47] h = some (none, h') ∧ TkM c len (sk c len e) h' ∧ NxF h h' := by
  have sb := sk_b (c := c) (len := len) (len - e) e (by omega)
  generalize hb : sk c len e = b at sb
  obtain ⟨T1, T2, T3, T4⟩ := id T
  have syb := sy_b (c := c) (len := len) (len - b) b (by omega)
  rw [c_X11_next, X11_next_0 (len - e) e h (by omega) T he, hb, e_X11_next_38]
  dsimp only
  rw [mu_s]
  have F1 : NxF h (mx_u (mx_u h.1 47 4 (iI (b : Int))) 47 3 (iI (b : Int)), mx_u (mx_u h.2.1 47 5 0) 47 6 0, h.2.2) := by
    refine ⟨fun a k z => ?_, fun a k z => ?_, rfl⟩
    · dsimp only [mx_u]; rw [if_neg (by omega), if_neg (by omega)]
    · dsimp only [mx_u]; rw [if_neg (by omega), if_neg (by omega)]
  have nil : tkL c b (b + 0) = [] := by unfold tkL; rw [show b + 0 - b = 0 by omega]; rfl
  obtain ⟨h1, v1, a1, F2, a3, a4, a5, a6⟩ := X11_next_56 (c := c) (len := len) (b := b) (len - b) 0 (mx_u (mx_u h.1 47 4 (iI (b : Int))) 47 3 (iI (b : Int)), mx_u (mx_u h.2.1 47 5 0) 47 6 0, h.2.2) mx_junk (by omega) (TxtM_n F1 T) (by dsimp only; rw [mu_s]) (by dsimp only; rw [mu_k _ _ (by decide), mu_s]; rfl) (by dsimp only; rw [mu_k _ _ (by decide), mu_s, nil]; rfl) (by dsimp only; rw [mu_s, nil]; rfl)
  rw [Nat.add_zero] at a4 a5 a6
  have F := NxF_t F1 F2
  have T' := TxtM_n F T
  obtain ⟨U1, U2, U3, U4⟩ := T'
  refine ⟨(mx_u (mx_u h1.1 47 2 (iI (tso c len b))) 47 4 (iI (tE c len b : Int)), h1.2.1, h1.2.2), ?_, ?_, ?_⟩
  · rw [a1]
    have fin : ∀ (n s1 : Int), n = (sy c len b : Int) - b → s1 = tso c len b → mx_D (4, mm_X11_next, 268, [.ref 47, .int (iI (n))], [.int (iI (s1)), .ref 47]) h1 = some (none, (mx_u (mx_u h1.1 47 2 (iI (tso c len b))) 47 4 (iI (tE c len b : Int)), h1.2.1, h1.2.2)) := by
      intro n s1 hn hs
      have tb : 0 ≤ tso c len b ∧ tso c len b ≤ 4 := by unfold tso; (repeat' split) <;> decide
      rw [e_X11_next_268, hs]
      by_cases q : 0 < n
      · have z : b < len ∧ isSy (c b) = true := by
          apply Decidable.byContradiction
          intro y
          rw [sy_f y] at hn
          omega
        have te : tE c len b = sy c len b := by unfold tE; rw [if_pos z.1, if_pos z.2]
        rw [if_pos (show (0 : Int32) < iI n from (ii_lt (a := 0) (by omega)).mpr (by omega)), e_X11_next_283, e_X11_next_296]
        dsimp only
        rw [mu_k _ _ (by decide), a4, te]
      · rw [if_neg (show ¬ (0 : Int32) < iI n from fun y => by have := (ii_lt (a := 0) (by omega)).mp y; omega), mu_s]
        by_cases z : b < len
        · have ns : ¬ isSy (c b) = true := by
            intro y
            have := sy_t (c := c) (len := len) ⟨z, y⟩
            have := (sy_b (c := c) (len := len) (len - (b + 1)) (b + 1) (by omega)).1
            omega
          have te : tE c len b = b + 1 := by unfold tE; rw [if_pos z, if_neg ns]
          have t0 : tso c len b ≠ 0 := by
            unfold tso
            rw [if_pos z, if_neg ns]
            split
            · decide
            · split <;> decide
          rw [if_neg (show ¬ iI (tso c len b) = 0 from fun y => t0 ((ii_eq (by omega) (by omega)).mp (y.trans (show (0 : Int32) = iI 0 from rfl)))), mu_k _ _ (by decide), a4, sy_f (fun y => ns y.2), ii_s1, e_X11_next_296, te]
        · have t0 : tso c len b = 0 := by unfold tso; rw [if_neg z]
          have te : tE c len b = b := by unfold tE; rw [if_neg z]
          rw [if_pos (show iI (tso c len b) = 0 by rw [t0]; rfl), e_X11_next_283, e_X11_next_296]
          dsimp only
          rw [mu_k _ _ (by decide), a4, te, sy_f (fun y => z y.1)]
    rw [e_X11_next_187, a3, a4, ii_sub, U1]
    by_cases q1 : b < len ∧ isSy (c b) = true
    · have lt : b < sy c len b := by
        rw [sy_t q1]
        have := (sy_b (c := c) (len := len) (len - (b + 1)) (b + 1) (by omega)).1
        omega
      by_cases q2 : 13 < sy c len b - b
      · rw [if_neg (fun y => by have := (ii_le (b := 13) (by omega)).mp y; omega)]
        exact fin _ 4 rfl (by unfold tso; rw [if_pos q1.1, if_pos q1.2, if_pos q2])
      · rw [if_pos (show iI ((sy c len b : Int) - b) ≤ 13 from (ii_le (b := 13) (by omega)).mpr (by omega)), if_neg (fun y => by have := (ii_le (b := 0) (by omega)).mp y; omega)]
        exact fin _ 3 rfl (by unfold tso; rw [if_pos q1.1, if_pos q1.2, if_neg q2])
    · rw [sy_f q1] at fin ⊢
      rw [if_pos (show iI ((b : Int) - b) ≤ 13 from (ii_le (b := 13) (by omega)).mpr (by omega)), if_pos (show iI ((b : Int) - b) ≤ 0 from (ii_le (b := 0) (by omega)).mpr (by omega))]
      by_cases q2 : b < len
      · have ns : ¬ isSy (c b) = true := fun y => q1 ⟨q2, y⟩
        have u := U2 b q2
        have ub := U4 b q2
        rw [if_pos (show iI (b : Int) < iI (len : Int) from (ii_lt (by omega)).mpr (by omega)), if_pos (in_t (a := (b : Int)) (n := 120) (by omega)), ii_cl (by omega), Int.toNat_natCast, u]
        by_cases p1 : c b = 40
        · rw [if_pos (show iI (c b) = 40 by rw [p1]; rfl)]
          exact fin _ 1 rfl (by unfold tso; rw [if_pos q2, if_neg ns, if_pos p1])
        · rw [if_neg (show ¬ iI (c b) = 40 from fun y => p1 ((ii_eq (b := 40) (by omega) (by decide)).mp y)), if_pos (in_t (a := (b : Int)) (n := 120) (by omega))]
          by_cases p2 : c b = 41
          · rw [if_pos (show iI (c b) = 41 by rw [p2]; rfl)]
            exact fin _ 2 rfl (by unfold tso; rw [if_pos q2, if_neg ns, if_neg p1, if_pos p2])
          · rw [if_neg (show ¬ iI (c b) = 41 from fun y => p2 ((ii_eq (b := 41) (by omega) (by decide)).mp y))]
            exact fin _ 4 rfl (by unfold tso; rw [if_pos q2, if_neg ns, if_neg p1, if_neg p2])
      · rw [if_neg (fun y => by have := (ii_lt (by omega)).mp y; omega)]
        exact fin _ 0 rfl (by unfold tso; rw [if_neg q2])
  · refine ⟨?_, ?_, ?_, a5, a6⟩
    · dsimp only; rw [mu_k _ _ (by decide), mu_k _ _ (by decide)]; exact a3
    · dsimp only; rw [mu_s]
    · dsimp only; rw [mu_k _ _ (by decide), mu_s]
  · refine NxF_t F ⟨fun a k z => ?_, fun a k z => rfl, rfl⟩
    dsimp only [mx_u]
    rw [if_neg (by omega), if_neg (by omega)]
end NX
