/-! terms: making them -/
def fnd (ts : Nat → Tm) (m : Tm) : Nat → Nat → Option Nat
  | 0, _ => none
  | d + 1, i => if tmE (ts i) m = true then some i else fnd ts m d (i + 1)
/-- the number of the term m, how many there are then, and which -/
def mkI (n : Nat) (ts : Nat → Tm) (m : Tm) : Nat := (fnd ts m n 0).getD n
def mkN (n : Nat) (ts : Nat → Tm) (m : Tm) : Nat := if (fnd ts m n 0).isSome = true then n else n + 1
def mkT (n : Nat) (ts : Nat → Tm) (m : Tm) : Nat → Tm := fun t => if t = n then m else ts t
theorem fnd_b {ts : Nat → Tm} {m : Tm} : ∀ (d i j : Nat), fnd ts m d i = some j → i ≤ j ∧ j < i + d ∧ ts j = m := by
  intro d
  induction d with
  | zero => intro i j h; cases h
  | succ d ih =>
    intro i j h
    unfold fnd at h
    by_cases q : tmE (ts i) m = true
    · rw [if_pos q] at h; cases h; exact ⟨by omega, by omega, tmE_e q⟩
    · rw [if_neg q] at h
      have := ih _ _ h
      exact ⟨by omega, by omega, this.2.2⟩
theorem fnd_n {ts : Nat → Tm} {m : Tm} : ∀ (d i : Nat), fnd ts m d i = none → ∀ j, i ≤ j → j < i + d → ts j ≠ m := by
  intro d
  induction d with
  | zero => intro i _ j h1 h2; omega
  | succ d ih =>
    intro i h j h1 h2
    unfold fnd at h
    by_cases q : tmE (ts i) m = true
    · rw [if_pos q] at h; cases h
    · rw [if_neg q] at h
      by_cases e : j = i
      · rw [e]; exact fun z => q (tmE_t z)
      · exact ih _ h j (by omega) (by omega)
section TM
variable {n : Nat} {ts : Nat → Tm} {h : mx_H}
theorem slot_u {m : Tm} {t : Nat} {f : Nat → Nat → Int32} {g : Nat → Nat → Option Nat} {x : Int32} : SlotC m t (mx_u f 6 4 x) g ↔ SlotC m t f g := by
  unfold SlotC
  rw [mu_f _ _ _ (by decide), mu_f _ _ _ (by decide), mu_f _ _ _ (by decide)]
theorem X7_add_c (hn : h.1 6 4 = iI n) (hn8 : n < 180) : mx_C mm_X7_add [.ref 6] h = some (some (.int (iI (n))), (mx_u h.1 6 4 (iI ((n : Int) + 1)), h.2.1, h.2.2)) := by
  rw [c_X7_add, e_X7_add_0]
  simp (disch := omega) only [↓reduceIte, ii_lit, ii_add, ii_sub, ii_mul, ii_neg, ii_lt_t, ii_lt_f, ii_le_t, ii_le_f, ii_eq_t, ii_eq_f, ii_in, ii_cl, ii_shr, ii_shl, ii_and1, ii_and255, Option.bind_some, Option.toList, List.cons_append, List.nil_append, Int.toNat_natCast, mu_s, mu_c, mu_k, bI_i0, bI_i1, bI_n, nb_0, nb_1, bI_ft, bI_ff, Bool.false_eq_true, reduceCtorEq, Bool.true_eq_false, decide_true, decide_false, eq_self, Int.reduceAdd, Int.reduceSub, Int.reduceMul, Int.reduceNeg, Int.reduceToNat, tn30, tn31, tn32, tn20, tn21, hn]
  congr 5
  omega
theorem X7_make_2 {m : Tm} (T : TermC n ts h.1 h.2.2) (hn8 : n < 180) (B : SlotC m n h.1 h.2.2) (hb : shp m) (k0 : tk m ≠ 0) : ∀ (d i : Nat), i + d = n → mx_D (2, mm_X7_make, 2, [.ref 6, .int (iI (i))], []) h = some (some (.int (iI ((((fnd ts m d i).getD n : Nat) : Int)))), (mx_u h.1 6 4 (iI ((if (fnd ts m d i).isSome = true then n else n + 1 : Nat) : Int)), h.2)) := by
  obtain ⟨T1, T2, T3⟩ := T
  have same : mx_u h.1 6 4 (iI n) = h.1 := by
    funext a k
    unfold mx_u
    by_cases q : a = 6 ∧ k = 4
    · rw [if_pos q, q.1, q.2, T1]
    · rw [if_neg q]
  intro d
  induction d with
  | zero =>
    intro i hi
    rw [e_X7_make_2, X7_add_c T1 hn8]
    simp (disch := omega) only [↓reduceIte, ii_lit, ii_add, ii_sub, ii_mul, ii_neg, ii_lt_t, ii_lt_f, ii_le_t, ii_le_f, ii_eq_t, ii_eq_f, ii_in, ii_cl, ii_shr, ii_shl, ii_and1, ii_and255, Option.bind_some, Option.toList, List.cons_append, List.nil_append, Int.toNat_natCast, mu_s, mu_c, mu_k, bI_i0, bI_i1, bI_n, nb_0, nb_1, bI_ft, bI_ff, Bool.false_eq_true, reduceCtorEq, Bool.true_eq_false, decide_true, decide_false, eq_self, Int.reduceAdd, Int.reduceSub, Int.reduceMul, Int.reduceNeg, Int.reduceToNat, tn30, tn31, tn32, tn20, tn21, T1, e_X7_make_30]
    rfl
  | succ d ih =>
    intro i hi
    rw [e_X7_make_2, X7_isPrepared_c T1 hn8 (by omega) (T3 i (by omega)).1 B (T3 i (by omega)).2 hb k0]
    unfold fnd
    by_cases q : tmE (ts i) m = true
    · simp (disch := omega) only [↓reduceIte, ii_lit, ii_add, ii_sub, ii_mul, ii_neg, ii_lt_t, ii_lt_f, ii_le_t, ii_le_f, ii_eq_t, ii_eq_f, ii_in, ii_cl, ii_shr, ii_shl, ii_and1, ii_and255, Option.bind_some, Option.toList, List.cons_append, List.nil_append, Int.toNat_natCast, mu_s, mu_c, mu_k, bI_i0, bI_i1, bI_n, nb_0, nb_1, bI_ft, bI_ff, Bool.false_eq_true, reduceCtorEq, Bool.true_eq_false, decide_true, decide_false, eq_self, Int.reduceAdd, Int.reduceSub, Int.reduceMul, Int.reduceNeg, Int.reduceToNat, tn30, tn31, tn32, tn20, tn21, T1, e_X7_make_15, q]
      show _ = some (_, (mx_u h.1 6 4 (iI ((n : Nat) : Int)), h.2))
      rw [same]
      rfl
    · have q' : tmE (ts i) m = false := by simpa using q
      simp (disch := omega) only [↓reduceIte, ii_lit, ii_add, ii_sub, ii_mul, ii_neg, ii_lt_t, ii_lt_f, ii_le_t, ii_le_f, ii_eq_t, ii_eq_f, ii_in, ii_cl, ii_shr, ii_shl, ii_and1, ii_and255, Option.bind_some, Option.toList, List.cons_append, List.nil_append, Int.toNat_natCast, mu_s, mu_c, mu_k, bI_i0, bI_i1, bI_n, nb_0, nb_1, bI_ft, bI_ff, Bool.false_eq_true, reduceCtorEq, Bool.true_eq_false, decide_true, decide_false, eq_self, Int.reduceAdd, Int.reduceSub, Int.reduceMul, Int.reduceNeg, Int.reduceToNat, tn30, tn31, tn32, tn20, tn21, T1, e_X7_make_15, q']
      exact ih (i + 1) (by omega)
theorem X7_make_c {m : Tm} (T : TermC n ts h.1 h.2.2) (hn8 : n < 180) (B : SlotC m n h.1 h.2.2) (hb : shp m) (k0 : tk m ≠ 0) : mx_C mm_X7_make [.ref 6] h = some (some (.int (iI ((mkI n ts m : Int)))), (mx_u h.1 6 4 (iI (mkN n ts m : Int)), h.2)) ∧ TermC (mkN n ts m) (mkT n ts m) (mx_u h.1 6 4 (iI (mkN n ts m : Int))) h.2.2 := by
  refine ⟨?_, ?_, ?_, ?_⟩
  · rw [c_X7_make, e_X7_make_0]
    exact X7_make_2 T hn8 B hb k0 n 0 (by omega)
  · rw [mu_s]
  · unfold mkN; split <;> omega
  · intro t ht
    rw [slot_u]
    unfold mkT
    by_cases q : t = n
    · rw [if_pos q, q]; exact ⟨B, hb⟩
    · rw [if_neg q]
      have : t < n := by unfold mkN at ht; split at ht <;> omega
      exact T.2.2 t this
/-- what prepare writes -/
def prF (f : Nat → Nat → Int32) (n : Nat) (i j s : Int32) : Nat → Nat → Int32 := mx_u (mx_u (mx_u (mx_u (mx_u (mx_u f 9 (2 * n) i) 9 (2 * n + 1) j) 10 n s) 8 (3 * n) (iI 0)) 8 (3 * n + 1) (iI 0)) 8 (3 * n + 2) (iI 0)
theorem X7_prepare_c {w : Nat} {i j s : Int32} (hn : h.1 6 4 = iI n) (hn8 : n < 180) (hw : w < 42) : mx_C mm_X7_prepare [.ref 6, mx_rf (some (1000 + w)), .int i, .int j, .int s] h = some (none, (prF h.1 n i j s, h.2.1, mx_u h.2.2 7 n (some (1000 + w)))) := by
  rw [c_X7_prepare, e_X7_prepare_0 (some (1000 + w)) i j s h (decide_eq_true (p := 1000 ≤ 1000 + w ∧ 1000 + w < 1042) (by omega))]
  simp (disch := omega) only [↓reduceIte, ii_lit, ii_add, ii_sub, ii_mul, ii_neg, ii_lt_t, ii_lt_f, ii_le_t, ii_le_f, ii_eq_t, ii_eq_f, ii_in, ii_cl, ii_shr, ii_shl, ii_and1, ii_and255, Option.bind_some, Option.toList, List.cons_append, List.nil_append, Int.toNat_natCast, mu_s, mu_c, mu_k, bI_i0, bI_i1, bI_n, nb_0, nb_1, bI_ft, bI_ff, Bool.false_eq_true, reduceCtorEq, Bool.true_eq_false, decide_true, decide_false, eq_self, Int.reduceAdd, Int.reduceSub, Int.reduceMul, Int.reduceNeg, Int.reduceToNat, tn30, tn31, tn32, tn20, tn21, hn, e_X7_prepare_60, e_X7_prepare_87]
  rfl
theorem prF_o {f : Nat → Nat → Int32} {i j s : Int32} {a k : Nat} (h : (a ≠ 8 ∧ a ≠ 9 ∧ a ≠ 10) ∨ (a = 8 ∧ k < 3 * n) ∨ (a = 9 ∧ k < 2 * n) ∨ (a = 10 ∧ k < n)) : prF f n i j s a k = f a k := by
  unfold prF mx_u
  rw [if_neg (by omega), if_neg (by omega), if_neg (by omega), if_neg (by omega), if_neg (by omega), if_neg (by omega)]
theorem TermC_pr {f : Nat → Nat → Int32} {g : Nat → Nat → Option Nat} {i j s : Int32} {o : Option Nat} (T : TermC n ts f g) : TermC n ts (prF f n i j s) (mx_u g 7 n o) := by
  obtain ⟨T1, T2, T3⟩ := T
  refine ⟨by rw [prF_o (by omega)]; exact T1, T2, fun t ht => ?_⟩
  obtain ⟨⟨A1, A2, A3, A4, A5, A6, A7⟩, b⟩ := T3 t ht
  refine ⟨⟨?_, ?_, ?_, ?_, ?_, ?_, ?_⟩, b⟩
  · rw [mu_k _ _ (by omega)]; exact A1
  · rw [prF_o (by omega)]; exact A2
  · rw [prF_o (by omega)]; exact A3
  · rw [prF_o (by omega)]; exact A4
  · rw [prF_o (by omega)]; exact A5
  · rw [prF_o (by omega)]; exact A6
  · rw [prF_o (by omega)]; exact A7
theorem SlotC_pr {f : Nat → Nat → Int32} {g : Nat → Nat → Option Nat} {m : Tm} (hx : cp (tx m) = 0) (hy : cp (ty m) = 0) (hz : cp (tz m) = 0) : SlotC m n (prF f n (iI (cn1 m)) (iI (cn2 m)) (iI (tS m))) (mx_u g 7 n (some (1000 + wk (tk m)))) := by
  unfold SlotC prF
  rw [hx, hy, hz]
  simp (disch := omega) only [↓reduceIte, ii_lit, ii_add, ii_sub, ii_mul, ii_neg, ii_lt_t, ii_lt_f, ii_le_t, ii_le_f, ii_eq_t, ii_eq_f, ii_in, ii_cl, ii_shr, ii_shl, ii_and1, ii_and255, Option.bind_some, Option.toList, List.cons_append, List.nil_append, Int.toNat_natCast, mu_s, mu_c, mu_k, bI_i0, bI_i1, bI_n, nb_0, nb_1, bI_ft, bI_ff, Bool.false_eq_true, reduceCtorEq, Bool.true_eq_false, decide_true, decide_false, eq_self, Int.reduceAdd, Int.reduceSub, Int.reduceMul, Int.reduceNeg, Int.reduceToNat, tn30, tn31, tn32, tn20, tn21]
  exact ⟨trivial, trivial, trivial, trivial, trivial, trivial, trivial⟩
theorem X7_preparePart_c {k : Nat} {x : Int32} (hn : h.1 6 4 = iI n) (hn8 : n < 180) (hk : k < 3) : mx_C mm_X7_preparePart [.ref 6, .int (iI (k)), .int x] h = some (none, (mx_u h.1 8 (3 * n + k) x, h.2.1, h.2.2)) := by
  have e : (3 * (n : Int) + (k : Int)).toNat = 3 * n + k := by omega
  rw [c_X7_preparePart, e_X7_preparePart_0]
  simp (disch := omega) only [↓reduceIte, ii_lit, ii_add, ii_sub, ii_mul, ii_neg, ii_lt_t, ii_lt_f, ii_le_t, ii_le_f, ii_eq_t, ii_eq_f, ii_in, ii_cl, ii_shr, ii_shl, ii_and1, ii_and255, Option.bind_some, Option.toList, List.cons_append, List.nil_append, Int.toNat_natCast, mu_s, mu_c, mu_k, bI_i0, bI_i1, bI_n, nb_0, nb_1, bI_ft, bI_ff, Bool.false_eq_true, reduceCtorEq, Bool.true_eq_false, decide_true, decide_false, eq_self, Int.reduceAdd, Int.reduceSub, Int.reduceMul, Int.reduceNeg, Int.reduceToNat, tn30, tn31, tn32, tn20, tn21, hn, e_X7_preparePart_33, e]
theorem X7_sortOf_c {t : Nat} (T : TermC n ts h.1 h.2.2) (ht : t < n) : mx_C mm_X7_sortOf [.ref 6, .int (iI (t))] h = some (some (.int (iI (tS (ts t)))), h) := by
  obtain ⟨T1, T2, T3⟩ := T
  have A := (T3 t ht).1.2.1
  rw [c_X7_sortOf, e_X7_sortOf_0]
  simp (disch := omega) only [↓reduceIte, ii_lit, ii_add, ii_sub, ii_mul, ii_neg, ii_lt_t, ii_lt_f, ii_le_t, ii_le_f, ii_eq_t, ii_eq_f, ii_in, ii_cl, ii_shr, ii_shl, ii_and1, ii_and255, Option.bind_some, Option.toList, List.cons_append, List.nil_append, Int.toNat_natCast, mu_s, mu_c, mu_k, bI_i0, bI_i1, bI_n, nb_0, nb_1, bI_ft, bI_ff, Bool.false_eq_true, reduceCtorEq, Bool.true_eq_false, decide_true, decide_false, eq_self, Int.reduceAdd, Int.reduceSub, Int.reduceMul, Int.reduceNeg, Int.reduceToNat, tn30, tn31, tn32, tn20, tn21, T1, A, e_X7_sortOf_22]
theorem X7_has_c {t : Nat} (T : TermC n ts h.1 h.2.2) (ht : t < n) : mx_C mm_X7_has [.ref 6, .int (iI (t))] h = some (some (.int (iI (1))), h) := by
  obtain ⟨T1, T2, T3⟩ := T
  rw [c_X7_has, e_X7_has_0]
  simp (disch := omega) only [↓reduceIte, ii_lit, ii_add, ii_sub, ii_mul, ii_neg, ii_lt_t, ii_lt_f, ii_le_t, ii_le_f, ii_eq_t, ii_eq_f, ii_in, ii_cl, ii_shr, ii_shl, ii_and1, ii_and255, Option.bind_some, Option.toList, List.cons_append, List.nil_append, Int.toNat_natCast, mu_s, mu_c, mu_k, bI_i0, bI_i1, bI_n, nb_0, nb_1, bI_ft, bI_ff, Bool.false_eq_true, reduceCtorEq, Bool.true_eq_false, decide_true, decide_false, eq_self, Int.reduceAdd, Int.reduceSub, Int.reduceMul, Int.reduceNeg, Int.reduceToNat, tn30, tn31, tn32, tn20, tn21, T1, e_X7_has_17]
theorem X7_opOf_c {t : Nat} (T : TermC n ts h.1 h.2.2) (ht : t < n) : mx_C mm_X7_opOf [.ref 6, .int (iI (t))] h = some (some (mx_rf (some (1000 + wk (tk (ts t))))), h) := by
  have A := (T.2.2 t ht).1.1
  have T2 := T.2.1
  rw [c_X7_opOf, e_X7_opOf_0, X7_has_c T ht]
  simp (disch := omega) only [↓reduceIte, ii_lit, ii_add, ii_sub, ii_mul, ii_neg, ii_lt_t, ii_lt_f, ii_le_t, ii_le_f, ii_eq_t, ii_eq_f, ii_in, ii_cl, ii_shr, ii_shl, ii_and1, ii_and255, Option.bind_some, Option.toList, List.cons_append, List.nil_append, Int.toNat_natCast, mu_s, mu_c, mu_k, bI_i0, bI_i1, bI_n, nb_0, nb_1, bI_ft, bI_ff, Bool.false_eq_true, reduceCtorEq, Bool.true_eq_false, decide_true, decide_false, eq_self, Int.reduceAdd, Int.reduceSub, Int.reduceMul, Int.reduceNeg, Int.reduceToNat, tn30, tn31, tn32, tn20, tn21, A, e_X7_opOf_5, e_X7_opOf_18]
theorem X7_partOf_c {t : Nat} (T : TermC n ts h.1 h.2.2) (ht : t < n) : mx_C mm_X7_partOf [.ref 6, .int (iI (t)), .int (iI (0))] h = some (some (.int (iI (cp (tx (ts t))))), h) ∧ mx_C mm_X7_partOf [.ref 6, .int (iI (t)), .int (iI (1))] h = some (some (.int (iI (cp (ty (ts t))))), h) ∧ mx_C mm_X7_partOf [.ref 6, .int (iI (t)), .int (iI (2))] h = some (some (.int (iI (cp (tz (ts t))))), h) := by
  obtain ⟨A1, A2, A3, A4, A5, A6, A7⟩ := (T.2.2 t ht).1
  have T2 := T.2.1
  refine ⟨?_, ?_, ?_⟩
  · rw [c_X7_partOf, e_X7_partOf_0, X7_has_c T ht]
    simp (disch := omega) only [↓reduceIte, ii_lit, ii_add, ii_sub, ii_mul, ii_neg, ii_lt_t, ii_lt_f, ii_le_t, ii_le_f, ii_eq_t, ii_eq_f, ii_in, ii_cl, ii_shr, ii_shl, ii_and1, ii_and255, Option.bind_some, Option.toList, List.cons_append, List.nil_append, Int.toNat_natCast, mu_s, mu_c, mu_k, bI_i0, bI_i1, bI_n, nb_0, nb_1, bI_ft, bI_ff, Bool.false_eq_true, reduceCtorEq, Bool.true_eq_false, decide_true, decide_false, eq_self, Int.reduceAdd, Int.reduceSub, Int.reduceMul, Int.reduceNeg, Int.reduceToNat, tn30, tn31, tn32, tn20, tn21, A3, e_X7_partOf_5, e_X7_partOf_31]
  · rw [c_X7_partOf, e_X7_partOf_0, X7_has_c T ht]
    simp (disch := omega) only [↓reduceIte, ii_lit, ii_add, ii_sub, ii_mul, ii_neg, ii_lt_t, ii_lt_f, ii_le_t, ii_le_f, ii_eq_t, ii_eq_f, ii_in, ii_cl, ii_shr, ii_shl, ii_and1, ii_and255, Option.bind_some, Option.toList, List.cons_append, List.nil_append, Int.toNat_natCast, mu_s, mu_c, mu_k, bI_i0, bI_i1, bI_n, nb_0, nb_1, bI_ft, bI_ff, Bool.false_eq_true, reduceCtorEq, Bool.true_eq_false, decide_true, decide_false, eq_self, Int.reduceAdd, Int.reduceSub, Int.reduceMul, Int.reduceNeg, Int.reduceToNat, tn30, tn31, tn32, tn20, tn21, A4, e_X7_partOf_5, e_X7_partOf_31]
  · rw [c_X7_partOf, e_X7_partOf_0, X7_has_c T ht]
    simp (disch := omega) only [↓reduceIte, ii_lit, ii_add, ii_sub, ii_mul, ii_neg, ii_lt_t, ii_lt_f, ii_le_t, ii_le_f, ii_eq_t, ii_eq_f, ii_in, ii_cl, ii_shr, ii_shl, ii_and1, ii_and255, Option.bind_some, Option.toList, List.cons_append, List.nil_append, Int.toNat_natCast, mu_s, mu_c, mu_k, bI_i0, bI_i1, bI_n, nb_0, nb_1, bI_ft, bI_ff, Bool.false_eq_true, reduceCtorEq, Bool.true_eq_false, decide_true, decide_false, eq_self, Int.reduceAdd, Int.reduceSub, Int.reduceMul, Int.reduceNeg, Int.reduceToNat, tn30, tn31, tn32, tn20, tn21, A5, e_X7_partOf_5, e_X7_partOf_31]
theorem X7_numberOf_c {t : Nat} (T : TermC n ts h.1 h.2.2) (ht : t < n) : mx_C mm_X7_numberOf [.ref 6, .int (iI (t)), .int (iI (0))] h = some (some (.int (iI (cn1 (ts t)))), h) ∧ mx_C mm_X7_numberOf [.ref 6, .int (iI (t)), .int (iI (1))] h = some (some (.int (iI (cn2 (ts t)))), h) := by
  obtain ⟨A1, A2, A3, A4, A5, A6, A7⟩ := (T.2.2 t ht).1
  have T2 := T.2.1
  have e : (2 * (t : Int) + 0).toNat = 2 * t := by omega
  refine ⟨?_, ?_⟩
  · rw [c_X7_numberOf, e_X7_numberOf_0, X7_has_c T ht]
    simp (disch := omega) only [↓reduceIte, ii_lit, ii_add, ii_sub, ii_mul, ii_neg, ii_lt_t, ii_lt_f, ii_le_t, ii_le_f, ii_eq_t, ii_eq_f, ii_in, ii_cl, ii_shr, ii_shl, ii_and1, ii_and255, Option.bind_some, Option.toList, List.cons_append, List.nil_append, Int.toNat_natCast, mu_s, mu_c, mu_k, bI_i0, bI_i1, bI_n, nb_0, nb_1, bI_ft, bI_ff, Bool.false_eq_true, reduceCtorEq, Bool.true_eq_false, decide_true, decide_false, eq_self, Int.reduceAdd, Int.reduceSub, Int.reduceMul, Int.reduceNeg, Int.reduceToNat, tn30, tn31, tn32, tn20, tn21, A6, e_X7_numberOf_5, e_X7_numberOf_31, e]
  · rw [c_X7_numberOf, e_X7_numberOf_0, X7_has_c T ht]
    simp (disch := omega) only [↓reduceIte, ii_lit, ii_add, ii_sub, ii_mul, ii_neg, ii_lt_t, ii_lt_f, ii_le_t, ii_le_f, ii_eq_t, ii_eq_f, ii_in, ii_cl, ii_shr, ii_shl, ii_and1, ii_and255, Option.bind_some, Option.toList, List.cons_append, List.nil_append, Int.toNat_natCast, mu_s, mu_c, mu_k, bI_i0, bI_i1, bI_n, nb_0, nb_1, bI_ft, bI_ff, Bool.false_eq_true, reduceCtorEq, Bool.true_eq_false, decide_true, decide_false, eq_self, Int.reduceAdd, Int.reduceSub, Int.reduceMul, Int.reduceNeg, Int.reduceToNat, tn30, tn31, tn32, tn20, tn21, A7, e_X7_numberOf_5, e_X7_numberOf_31]
theorem X7_addConstant_c {m : Tm} (T : TermC n ts h.1 h.2.2) (hn8 : n < 180) (hk : tk m = 0) (hm : shp m) : ∃ h', mx_C mm_X7_addConstant [.ref 6, .int (iI (to m)), .int (iI (tS m))] h = some (some (.int (iI (n))), h') ∧ TermC (n + 1) (mkT n ts m) h'.1 h'.2.2 ∧ (∀ a k, a ≠ 8 → a ≠ 9 → a ≠ 10 → a ≠ 6 → h'.1 a k = h.1 a k) ∧ (∀ k, k ≠ 4 → h'.1 6 k = h.1 6 k) ∧ h'.2.1 = h.2.1 ∧ ∀ a, a ≠ 7 → h'.2.2 a = h.2.2 a := by
  have hn := T.1
  have c1 : cn1 m = to m := by unfold cn1; rw [if_neg (by omega), if_pos hk]
  have c2 : cn2 m = 0 := by unfold cn2; rw [if_pos (by omega)]
  have pz : cp (tx m) = 0 ∧ cp (ty m) = 0 ∧ cp (tz m) = 0 := by
    unfold shp at hm
    have : np (tk m) = 0 := by rw [hk]; rfl
    unfold cp
    refine ⟨?_, ?_, ?_⟩ <;> (rw [if_pos (by omega)])
  have wk0 : wk (tk m) = 4 := by rw [hk]; rfl
  have S := SlotC_pr (n := n) (f := h.1) (g := h.2.2) pz.1 pz.2.1 pz.2.2
  have P := X7_prepare_c (h := h) (w := 4) (i := iI (to m)) (j := iI 0) (s := iI (tS m)) hn hn8 (by decide)
  have e6 : prF h.1 n (iI (to m)) (iI 0) (iI (tS m)) 6 4 = iI n := by rw [prF_o (by omega)]; exact hn
  refine ⟨(mx_u (prF h.1 n (iI (to m)) (iI 0) (iI (tS m))) 6 4 (iI ((n : Int) + 1)), h.2.1, mx_u h.2.2 7 n (some (1000 + 4))), ?_, ⟨?_, by omega, ?_⟩, ?_, ?_, rfl, fun a ha => mu_f _ _ _ ha⟩
  · rw [c_X7_addConstant, e_X7_addConstant_0, ii_lit 0]
    refine (congrArg (fun o => Option.bind o _) P).trans ?_
    refine (e_X7_addConstant_10 _ _ _).trans ?_
    dsimp only
    rw [X7_add_c (n := n) (h := (prF h.1 n (iI (to m)) (iI 0) (iI (tS m)), h.2.1, mx_u h.2.2 7 n (some (1000 + 4)))) e6 hn8]
    exact e_X7_addConstant_14 _ _ _ _
  · dsimp only; rw [mu_s]; rfl
  · intro t ht
    dsimp only
    rw [slot_u]
    unfold mkT
    by_cases q : t = n
    · rw [if_pos q, q]
      rw [c1, c2, wk0] at S
      exact ⟨S, hm⟩
    · rw [if_neg q]
      exact (TermC_pr T).2.2 t (by omega)
  · intro a k h1 h2 h3 h4
    dsimp only
    rw [mu_c _ _ _ _ h4, prF_o (by omega)]
  · intro k hk
    dsimp only
    rw [mu_k _ _ hk, prF_o (by omega)]
theorem X7_cut_c {k : Nat} (T : TermC n ts h.1 h.2.2) (hk : k ≤ n) : mx_C mm_X7_cut [.ref 6, .int (iI (k))] h = some (none, (mx_u h.1 6 4 (iI k), h.2.1, h.2.2)) := by
  obtain ⟨T1, T2, T3⟩ := T
  rw [c_X7_cut, e_X7_cut_0]
  by_cases q : k < n
  · simp (disch := omega) only [↓reduceIte, ii_lit, ii_add, ii_sub, ii_mul, ii_neg, ii_lt_t, ii_lt_f, ii_le_t, ii_le_f, ii_eq_t, ii_eq_f, ii_in, ii_cl, ii_shr, ii_shl, ii_and1, ii_and255, Option.bind_some, Option.toList, List.cons_append, List.nil_append, Int.toNat_natCast, mu_s, mu_c, mu_k, bI_i0, bI_i1, bI_n, nb_0, nb_1, bI_ft, bI_ff, Bool.false_eq_true, reduceCtorEq, Bool.true_eq_false, decide_true, decide_false, eq_self, Int.reduceAdd, Int.reduceSub, Int.reduceMul, Int.reduceNeg, Int.reduceToNat, tn30, tn31, tn32, tn20, tn21, T1, e_X7_cut_17]
  · have : k = n := by omega
    subst this
    simp (disch := omega) only [↓reduceIte, ii_lit, ii_add, ii_sub, ii_mul, ii_neg, ii_lt_t, ii_lt_f, ii_le_t, ii_le_f, ii_eq_t, ii_eq_f, ii_in, ii_cl, ii_shr, ii_shl, ii_and1, ii_and255, Option.bind_some, Option.toList, List.cons_append, List.nil_append, Int.toNat_natCast, mu_s, mu_c, mu_k, bI_i0, bI_i1, bI_n, nb_0, nb_1, bI_ft, bI_ff, Bool.false_eq_true, reduceCtorEq, Bool.true_eq_false, decide_true, decide_false, eq_self, Int.reduceAdd, Int.reduceSub, Int.reduceMul, Int.reduceNeg, Int.reduceToNat, tn30, tn31, tn32, tn20, tn21, T1, e_X7_cut_17]
    have same : mx_u h.1 6 4 (iI k) = h.1 := by
      funext a j
      unfold mx_u
      by_cases q : a = 6 ∧ j = 4
      · rw [if_pos q, q.1, q.2, T1]
      · rw [if_neg q]
    rw [same]
end TM
/-- how many of the first n terms are heavy -/
def hv (ts : Nat → Tm) : Nat → Nat
  | 0 => 0
  | n + 1 => hv ts n + (if 19 ≤ tk (ts n) ∧ tk (ts n) ≤ 21 then 1 else 0)
theorem X9_isHeavy_c {k : Int} (h : mx_H) (hk : 0 ≤ k ∧ k ≤ 34) : mx_C mm_X9_isHeavy [.ref (1000 + wk k)] h = some (some (.int (bI (decide (19 ≤ k ∧ k ≤ 21)))), h) := by
  have hb := wk_lt hk
  rw [c_X9_isHeavy (hw_v0 := by omega), e_X9_isHeavy_0 (hw_v0 := by omega)]
  have e : ∀ i : Nat, ((.ref (1000 + wk k) : Value) = .ref (1000 + i)) = (wk k = i) := fun i => propext ⟨fun q => (by have : (1000 + wk k : Nat) = 1000 + i := Value.ref.inj q; omega), fun q => by rw [q]⟩
  have E1 := e 26
  have E2 := e 27
  have E3 := e 28
  rw [show 1000 + 26 = 1026 from rfl] at E1
  rw [show 1000 + 27 = 1027 from rfl] at E2
  rw [show 1000 + 28 = 1028 from rfl] at E3
  have w : wk k = 26 ∨ wk k = 27 ∨ wk k = 28 ↔ 19 ≤ k ∧ k ≤ 21 := by
    unfold wk
    split
    · omega
    · split
      · omega
      · split
        · omega
        · split <;> omega
  have e21 := e_X9_isHeavy_21 (1000 + wk k) (by omega) h
  have e26 := fun s => e_X9_isHeavy_26 (1000 + wk k) (by omega) s h
  by_cases q : 19 ≤ k ∧ k ≤ 21
  · rw [decide_eq_true q]
    rcases w.mpr q with z | z | z
    all_goals
      rw [z] at e21 e26 ⊢
      simp (disch := omega) only [↓reduceIte, ii_lit, ii_add, ii_sub, ii_mul, ii_neg, ii_lt_t, ii_lt_f, ii_le_t, ii_le_f, ii_eq_t, ii_eq_f, ii_in, ii_cl, ii_shr, ii_shl, ii_and1, ii_and255, Option.bind_some, Option.toList, List.cons_append, List.nil_append, Int.toNat_natCast, mu_s, mu_c, mu_k, bI_i0, bI_i1, bI_n, nb_0, nb_1, bI_ft, bI_ff, Bool.false_eq_true, reduceCtorEq, Bool.true_eq_false, decide_true, decide_false, eq_self, Int.reduceAdd, Int.reduceSub, Int.reduceMul, Int.reduceNeg, Int.reduceToNat, tn30, tn31, tn32, tn20, tn21, e21, e26, Value.ref.injEq, Nat.reduceAdd, Nat.reduceEqDiff]
  · rw [decide_eq_false q]
    have z1 : ¬ wk k = 26 := fun z => q (w.mp (Or.inl z))
    have z2 : ¬ wk k = 27 := fun z => q (w.mp (Or.inr (Or.inl z)))
    have z3 : ¬ wk k = 28 := fun z => q (w.mp (Or.inr (Or.inr z)))
    simp (disch := omega) only [↓reduceIte, ii_lit, ii_add, ii_sub, ii_mul, ii_neg, ii_lt_t, ii_lt_f, ii_le_t, ii_le_f, ii_eq_t, ii_eq_f, ii_in, ii_cl, ii_shr, ii_shl, ii_and1, ii_and255, Option.bind_some, Option.toList, List.cons_append, List.nil_append, Int.toNat_natCast, mu_s, mu_c, mu_k, bI_i0, bI_i1, bI_n, nb_0, nb_1, bI_ft, bI_ff, Bool.false_eq_true, reduceCtorEq, Bool.true_eq_false, decide_true, decide_false, eq_self, Int.reduceAdd, Int.reduceSub, Int.reduceMul, Int.reduceNeg, Int.reduceToNat, tn30, tn31, tn32, tn20, tn21, E1, E2, E3, z1, z2, z3, e26]
theorem e_X7_heavyOnes_4x (v1 : Int32) (v2 : Int32) (h : mx_H) (hq : h.1 6 4 ≤ v2) : mx_D (2, mm_X7_heavyOnes, 4, [.ref 6, .int v1, .int v2], []) h = some (some (.int v1), h) := by
  refine Eq.trans (q_iload_n dX7_heavyOnes_4 rfl) ?_
  refine Eq.trans (q_aload_n dX7_heavyOnes_5 rfl rfl) ?_
  refine Eq.trans (q_getf dX7_heavyOnes_6 mx_fld_7_27 (gf_6_4 _)) ?_
  refine Eq.trans (q_icmp_ge 42 dX7_heavyOnes_9 rfl) (Eq.trans (if_pos hq) ?_)
  refine Eq.trans (q_iload_n dX7_heavyOnes_42 rfl) ?_
  exact q_retI dX7_heavyOnes_43 rfl
theorem X7_heavyOnes_4 {n : Nat} {ts : Nat → Tm} {h : mx_H} (T : TermC n ts h.1 h.2.2) : ∀ (d i : Nat), i + d = n → mx_D (2, mm_X7_heavyOnes, 4, [.ref 6, .int (iI ((hv ts i : Int))), .int (iI (i))], []) h = some (some (.int (iI ((hv ts n : Int)))), h) := by
  obtain ⟨T1, T2, T3⟩ := T
  intro d
  induction d with
  | zero =>
    intro i hi
    have : i = n := hi
    subst this
    exact e_X7_heavyOnes_4x _ _ h (by rw [T1]; exact Int32.le_refl _)
  | succ d ih =>
    intro i hi
    obtain ⟨A, B⟩ := T3 i (by omega)
    have hk := B.1
    have hb := wk_lt hk
    rw [e_X7_heavyOnes_4 (a0 := 1000 + wk (tk (ts i))) (he_a0 := by rw [ii_cl (by omega), Int.toNat_natCast]; exact A.1) (hw_a0 := by omega), X9_isHeavy_c h hk]
    have nn : (mx_rf (some (1000 + wk (tk (ts i)))) : Value) = .null ↔ False := ⟨fun q => (by cases q), fun q => q.elim⟩
    have := ih (i + 1) (by omega)
    by_cases q : 19 ≤ tk (ts i) ∧ tk (ts i) ≤ 21
    · rw [decide_eq_true q]
      have e : hv ts (i + 1) = hv ts i + 1 := by show hv ts i + _ = _; rw [if_pos q]
      rw [e] at this
      simp (disch := omega) only [↓reduceIte, ii_lit, ii_add, ii_sub, ii_mul, ii_neg, ii_lt_t, ii_lt_f, ii_le_t, ii_le_f, ii_eq_t, ii_eq_f, ii_in, ii_cl, ii_shr, ii_shl, ii_and1, ii_and255, Option.bind_some, Option.toList, List.cons_append, List.nil_append, Int.toNat_natCast, mu_s, mu_c, mu_k, bI_i0, bI_i1, bI_n, nb_0, nb_1, bI_ft, bI_ff, Bool.false_eq_true, reduceCtorEq, Bool.true_eq_false, decide_true, decide_false, eq_self, Int.reduceAdd, Int.reduceSub, Int.reduceMul, Int.reduceNeg, Int.reduceToNat, tn30, tn31, tn32, tn20, tn21, T1, A.1, nn, e_X7_heavyOnes_30, e_X7_heavyOnes_36]
      exact this
    · rw [decide_eq_false q]
      have e : hv ts (i + 1) = hv ts i := by show hv ts i + _ = _; rw [if_neg q]; rfl
      rw [e] at this
      simp (disch := omega) only [↓reduceIte, ii_lit, ii_add, ii_sub, ii_mul, ii_neg, ii_lt_t, ii_lt_f, ii_le_t, ii_le_f, ii_eq_t, ii_eq_f, ii_in, ii_cl, ii_shr, ii_shl, ii_and1, ii_and255, Option.bind_some, Option.toList, List.cons_append, List.nil_append, Int.toNat_natCast, mu_s, mu_c, mu_k, bI_i0, bI_i1, bI_n, nb_0, nb_1, bI_ft, bI_ff, Bool.false_eq_true, reduceCtorEq, Bool.true_eq_false, decide_true, decide_false, eq_self, Int.reduceAdd, Int.reduceSub, Int.reduceMul, Int.reduceNeg, Int.reduceToNat, tn30, tn31, tn32, tn20, tn21, T1, A.1, nn, e_X7_heavyOnes_30, e_X7_heavyOnes_36]
      exact this
theorem X7_heavyOnes_c {n : Nat} {ts : Nat → Tm} {h : mx_H} (T : TermC n ts h.1 h.2.2) : mx_C mm_X7_heavyOnes [.ref 6] h = some (some (.int (iI ((hv ts n : Int)))), h) := by
  rw [c_X7_heavyOnes, e_X7_heavyOnes_0]
  exact X7_heavyOnes_4 T n 0 (by omega)
