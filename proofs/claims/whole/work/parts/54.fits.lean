/-! fits and resultSort -/
theorem X10_isWord_c {a : Int} (h : mx_H) (hr : i32 a) : mx_C mm_X10_isWord [.int (iI (a))] h = some (some (.int (bI (decide (1 ≤ a ∧ a ≤ 4)))), h) := by
  rw [c_X10_isWord, e_X10_isWord_0]
  by_cases q : a ≤ 0
  · have e : decide (1 ≤ a ∧ a ≤ 4) = false := decide_eq_false (by omega)
    simp (disch := omega) only [↓reduceIte, ii_lit, ii_add, ii_sub, ii_mul, ii_neg, ii_lt_t, ii_lt_f, ii_le_t, ii_le_f, ii_eq_t, ii_eq_f, ii_in, ii_cl, ii_shr, ii_shl, ii_and1, ii_and255, Option.bind_some, Option.toList, List.cons_append, List.nil_append, Int.toNat_natCast, mu_s, mu_c, mu_k, bI_i0, bI_i1, bI_n, nb_0, nb_1, bI_ft, bI_ff, Bool.false_eq_true, reduceCtorEq, Bool.true_eq_false, decide_true, decide_false, eq_self, Int.reduceAdd, Int.reduceSub, Int.reduceMul, Int.reduceNeg, Int.reduceToNat, tn30, tn31, tn32, tn20, tn21, e_X10_isWord_13, e_X10_isWord_14, e]
  · by_cases q2 : 4 < a
    · have e : decide (1 ≤ a ∧ a ≤ 4) = false := decide_eq_false (by omega)
      simp (disch := omega) only [↓reduceIte, ii_lit, ii_add, ii_sub, ii_mul, ii_neg, ii_lt_t, ii_lt_f, ii_le_t, ii_le_f, ii_eq_t, ii_eq_f, ii_in, ii_cl, ii_shr, ii_shl, ii_and1, ii_and255, Option.bind_some, Option.toList, List.cons_append, List.nil_append, Int.toNat_natCast, mu_s, mu_c, mu_k, bI_i0, bI_i1, bI_n, nb_0, nb_1, bI_ft, bI_ff, Bool.false_eq_true, reduceCtorEq, Bool.true_eq_false, decide_true, decide_false, eq_self, Int.reduceAdd, Int.reduceSub, Int.reduceMul, Int.reduceNeg, Int.reduceToNat, tn30, tn31, tn32, tn20, tn21, e_X10_isWord_13, e_X10_isWord_14, e]
    · have e : decide (1 ≤ a ∧ a ≤ 4) = true := decide_eq_true (by omega)
      simp (disch := omega) only [↓reduceIte, ii_lit, ii_add, ii_sub, ii_mul, ii_neg, ii_lt_t, ii_lt_f, ii_le_t, ii_le_f, ii_eq_t, ii_eq_f, ii_in, ii_cl, ii_shr, ii_shl, ii_and1, ii_and255, Option.bind_some, Option.toList, List.cons_append, List.nil_append, Int.toNat_natCast, mu_s, mu_c, mu_k, bI_i0, bI_i1, bI_n, nb_0, nb_1, bI_ft, bI_ff, Bool.false_eq_true, reduceCtorEq, Bool.true_eq_false, decide_true, decide_false, eq_self, Int.reduceAdd, Int.reduceSub, Int.reduceMul, Int.reduceNeg, Int.reduceToNat, tn30, tn31, tn32, tn20, tn21, e_X10_isWord_13, e_X10_isWord_14, e]
theorem X10_isArray_c {a : Int} (h : mx_H) (hr : i32 a) : mx_C mm_X10_isArray [.int (iI (a))] h = some (some (.int (bI (decide (4 < a)))), h) := by
  rw [c_X10_isArray, e_X10_isArray_0]
  by_cases q : a ≤ 4
  · have e : decide (4 < a) = false := decide_eq_false (by omega)
    simp (disch := omega) only [↓reduceIte, ii_lit, ii_add, ii_sub, ii_mul, ii_neg, ii_lt_t, ii_lt_f, ii_le_t, ii_le_f, ii_eq_t, ii_eq_f, ii_in, ii_cl, ii_shr, ii_shl, ii_and1, ii_and255, Option.bind_some, Option.toList, List.cons_append, List.nil_append, Int.toNat_natCast, mu_s, mu_c, mu_k, bI_i0, bI_i1, bI_n, nb_0, nb_1, bI_ft, bI_ff, Bool.false_eq_true, reduceCtorEq, Bool.true_eq_false, decide_true, decide_false, eq_self, Int.reduceAdd, Int.reduceSub, Int.reduceMul, Int.reduceNeg, Int.reduceToNat, tn30, tn31, tn32, tn20, tn21, e_X10_isArray_10, e]
  · have e : decide (4 < a) = true := decide_eq_true (by omega)
    simp (disch := omega) only [↓reduceIte, ii_lit, ii_add, ii_sub, ii_mul, ii_neg, ii_lt_t, ii_lt_f, ii_le_t, ii_le_f, ii_eq_t, ii_eq_f, ii_in, ii_cl, ii_shr, ii_shl, ii_and1, ii_and255, Option.bind_some, Option.toList, List.cons_append, List.nil_append, Int.toNat_natCast, mu_s, mu_c, mu_k, bI_i0, bI_i1, bI_n, nb_0, nb_1, bI_ft, bI_ff, Bool.false_eq_true, reduceCtorEq, Bool.true_eq_false, decide_true, decide_false, eq_self, Int.reduceAdd, Int.reduceSub, Int.reduceMul, Int.reduceNeg, Int.reduceToNat, tn30, tn31, tn32, tn20, tn21, e_X10_isArray_10, e]
def shF (w : Nat) : Int := if w ≤ 10 then 0 else if w ≤ 15 then 1 else if w ≤ 17 then 2 else if w ≤ 18 then 3 else if w ≤ 31 then 4 else if w ≤ 35 then 5 else if w ≤ 36 then 6 else if w ≤ 37 then 7 else if w ≤ 39 then 8 else 9
theorem wsh_1 : ∀ w : Fin 42, (mx_wsh.getD w.val (0, 0)).1 = iI (shF w.val) := by decide +kernel
theorem wsh_2 : ∀ w : Fin 42, (mx_wsh.getD w.val (0, 0)).2 = iI (if w.val ≤ 10 then 0 else np ((w.val : Int) - 7)) := by decide +kernel
theorem wsh_s {w : Nat} {v : Int} (hw : w < 42) (h : shF w = v) : (mx_wsh.getD (1000 + w - 1000) (0, 0)).1 = iI v := by
  rw [show 1000 + w - 1000 = w by omega, ← h]
  exact wsh_1 ⟨w, hw⟩
theorem wsh_p {w : Nat} (hw : w < 42) (h : 11 ≤ w) : (mx_wsh.getD (1000 + w - 1000) (0, 0)).2 = iI (np ((w : Int) - 7)) := by
  rw [show 1000 + w - 1000 = w by omega]
  have := wsh_2 ⟨w, hw⟩
  dsimp only at this
  rw [if_neg (by omega)] at this
  exact this
theorem wsh_0 {w : Nat} (h : w ≤ 10) : (mx_wsh.getD (1000 + w - 1000) (0, 0)).2 = iI 0 := by
  rw [show 1000 + w - 1000 = w by omega]
  have := wsh_2 ⟨w, by omega⟩
  dsimp only at this
  rw [if_pos (by omega)] at this
  exact this
theorem X9_takesNumbers_c {w : Nat} (h : mx_H) (hw : w < 42) : mx_C mm_X9_takesNumbers [.ref (1000 + w)] h = some (some (.int (bI (decide (37 ≤ w ∧ w ≤ 39)))), h) := by
  have hh : 1000 ≤ 1000 + w ∧ 1000 + w < 1042 := by omega
  rw [c_X9_takesNumbers _ hh, e_X9_takesNumbers_0 _ hh]
  have sb : -1 < shF w ∧ shF w < 10 := by unfold shF; omega
  have s7 : shF w = 7 ↔ w = 37 := by unfold shF; omega
  have s8 : shF w = 8 ↔ w = 38 ∨ w = 39 := by unfold shF; omega
  rw [wsh_s hw rfl]
  by_cases q : 37 ≤ w ∧ w ≤ 39
  · have e : decide (37 ≤ w ∧ w ≤ 39) = true := decide_eq_true q
    by_cases q1 : shF w = 7
    · simp (disch := omega) only [↓reduceIte, ii_lit, ii_add, ii_sub, ii_mul, ii_neg, ii_lt_t, ii_lt_f, ii_le_t, ii_le_f, ii_eq_t, ii_eq_f, ii_in, ii_cl, ii_shr, ii_shl, ii_and1, ii_and255, Option.bind_some, Option.toList, List.cons_append, List.nil_append, Int.toNat_natCast, mu_s, mu_c, mu_k, bI_i0, bI_i1, bI_n, nb_0, nb_1, bI_ft, bI_ff, Bool.false_eq_true, reduceCtorEq, Bool.true_eq_false, decide_true, decide_false, eq_self, Int.reduceAdd, Int.reduceSub, Int.reduceMul, Int.reduceNeg, Int.reduceToNat, tn30, tn31, tn32, tn20, tn21, q1, e_X9_takesNumbers_18 _ hh, e_X9_takesNumbers_23 _ hh, e]
    · simp (disch := omega) only [↓reduceIte, ii_lit, ii_add, ii_sub, ii_mul, ii_neg, ii_lt_t, ii_lt_f, ii_le_t, ii_le_f, ii_eq_t, ii_eq_f, ii_in, ii_cl, ii_shr, ii_shl, ii_and1, ii_and255, Option.bind_some, Option.toList, List.cons_append, List.nil_append, Int.toNat_natCast, mu_s, mu_c, mu_k, bI_i0, bI_i1, bI_n, nb_0, nb_1, bI_ft, bI_ff, Bool.false_eq_true, reduceCtorEq, Bool.true_eq_false, decide_true, decide_false, eq_self, Int.reduceAdd, Int.reduceSub, Int.reduceMul, Int.reduceNeg, Int.reduceToNat, tn30, tn31, tn32, tn20, tn21, e_X9_takesNumbers_18 _ hh, e_X9_takesNumbers_23 _ hh, e]
  · have e : decide (37 ≤ w ∧ w ≤ 39) = false := decide_eq_false q
    simp (disch := omega) only [↓reduceIte, ii_lit, ii_add, ii_sub, ii_mul, ii_neg, ii_lt_t, ii_lt_f, ii_le_t, ii_le_f, ii_eq_t, ii_eq_f, ii_in, ii_cl, ii_shr, ii_shl, ii_and1, ii_and255, Option.bind_some, Option.toList, List.cons_append, List.nil_append, Int.toNat_natCast, mu_s, mu_c, mu_k, bI_i0, bI_i1, bI_n, nb_0, nb_1, bI_ft, bI_ff, Bool.false_eq_true, reduceCtorEq, Bool.true_eq_false, decide_true, decide_false, eq_self, Int.reduceAdd, Int.reduceSub, Int.reduceMul, Int.reduceNeg, Int.reduceToNat, tn30, tn31, tn32, tn20, tn21, e_X9_takesNumbers_18 _ hh, e_X9_takesNumbers_23 _ hh, e]
/-- the parts read so far -/
def PrtC (L : Nat) (ps : List Nat) (f : Nat → Nat → Int32) : Prop := ∀ i, i < ps.length → f 19 (3 * L + i) = iI ((ps.getD i 0 : Nat) : Int)
theorem fb1 {k : Int} {i : Nat} {a b d p : Int} {h : mx_H} (H : fitP k i a b d p) : (some (some (.int (iI (1))), h) : Option mx_O) = some (some (.int (bI (fitB k i a b d p))), h) := by
  rw [fitB_t.mpr H]; rfl
theorem fb0 {k : Int} {i : Nat} {a b d p : Int} {h : mx_H} (H : ¬ fitP k i a b d p) : (some (some (.int (iI (0))), h) : Option mx_O) = some (some (.int (bI (fitB k i a b d p))), h) := by
  have : fitB k i a b d p = false := by
    cases q : fitB k i a b d p with
    | false => rfl
    | true => exact absurd (fitB_t.mp q) H
  rw [this]; rfl
theorem X4_fits_c {n : Nat} {ts : Nat → Tm} {h : mx_H} {L w i : Nat} {k p : Int} {ps : List Nat} (T : TermC n ts h.1 h.2.2) (hw : w < 42) (hk : 4 ≤ k ∧ k ≤ 34) (hwk : (w : Int) = k + 7) (hp : 0 ≤ p ∧ p ≤ 99) (hL : L ≤ 8) (P : PrtC L ps h.1) (hn : ∀ t, t ∈ ps → t < n) (hi : i + 1 = ps.length) (hi3 : i < 3) : mx_C mm_X4_fits [.ref 18, .ref (1000 + w), .int (iI (i)), .int (iI (3 * (L : Int))), .int (iI (p))] h = some (some (.int (bI (fitB k i (tS (ts (ps.getD i 0))) (tS (ts (ps.getD 0 0))) (tS (ts (ps.getD 1 0))) p))), h) := by
  have hh : 1000 ≤ 1000 + w ∧ 1000 + w < 1042 := by omega
  have pi := P i (by omega)
  have p0 := P 0 (by omega)
  have ci := X7_sortOf_c T (hn _ (gd_mem (i := i) (by omega)))
  have c0 := X7_sortOf_c T (hn _ (gd_mem (i := 0) (by omega)))
  have si := (T.2.2 _ (hn _ (gd_mem (i := i) (by omega)))).2.2.1
  have s0 := (T.2.2 _ (hn _ (gd_mem (i := 0) (by omega)))).2.2.1
  have e1 : (3 * (L : Int) + (i : Int)).toNat = 3 * L + i := by omega
  have i0 : i = 0 → tS (ts (ps.getD i 0)) = tS (ts (ps.getD 0 0)) := fun z => by rw [z]
  have i1 : 0 < i → ∃ x, tS (ts (ps.getD 1 0)) = x ∧ (0 ≤ x ∧ x ≤ 8) ∧ h.1 19 (3 * L + 1) = iI ((ps.getD 1 0 : Nat) : Int) ∧ mx_C mm_X7_sortOf [.ref 6, .int (iI (((ps.getD 1 0 : Nat) : Int)))] h = some (some (.int (iI (x))), h) ∧ (i = 1 → tS (ts (ps.getD i 0)) = x) := fun z => ⟨_, rfl, (T.2.2 _ (hn _ (gd_mem (i := 1) (by omega)))).2.2.1, P 1 (by omega), X7_sortOf_c T (hn _ (gd_mem (i := 1) (by omega))), fun z => by rw [z]⟩
  refine Eq.trans (c_X4_fits (some (1000 + w)) _ _ _ h) ?_
  rw [e_X4_fits_0]
  rw [Nat.add_zero] at p0
  generalize tS (ts (ps.getD i 0)) = a at *
  generalize tS (ts (ps.getD 0 0)) = b at *
  simp (disch := omega) only [↓reduceIte, ii_lit, ii_add, ii_sub, ii_mul, ii_neg, ii_lt_t, ii_lt_f, ii_le_t, ii_le_f, ii_eq_t, ii_eq_f, ii_in, ii_cl, ii_shr, ii_shl, ii_and1, ii_and255, Option.bind_some, Option.toList, List.cons_append, List.nil_append, Int.toNat_natCast, mu_s, mu_c, mu_k, bI_i0, bI_i1, bI_n, nb_0, nb_1, bI_ft, bI_ff, Bool.false_eq_true, reduceCtorEq, Bool.true_eq_false, decide_true, decide_false, eq_self, Int.reduceAdd, Int.reduceSub, Int.reduceMul, Int.reduceNeg, Int.reduceToNat, tn30, tn31, tn32, tn20, tn21, e1, pi, ci, e_X4_fits_15]
  rw [show (3 * (L : Int)).toNat = 3 * L by omega, p0]
  simp (disch := omega) only [↓reduceIte, ii_lit, ii_add, ii_sub, ii_mul, ii_neg, ii_lt_t, ii_lt_f, ii_le_t, ii_le_f, ii_eq_t, ii_eq_f, ii_in, ii_cl, ii_shr, ii_shl, ii_and1, ii_and255, Option.bind_some, Option.toList, List.cons_append, List.nil_append, Int.toNat_natCast, mu_s, mu_c, mu_k, bI_i0, bI_i1, bI_n, nb_0, nb_1, bI_ft, bI_ff, Bool.false_eq_true, reduceCtorEq, Bool.true_eq_false, decide_true, decide_false, eq_self, Int.reduceAdd, Int.reduceSub, Int.reduceMul, Int.reduceNeg, Int.reduceToNat, tn30, tn31, tn32, tn20, tn21, c0]
  refine Eq.trans (e_X4_fits_30 (1000 + w) hh _ _ _ _ _ h) ?_
  have go : ∀ (x : Int) (m : Nat), shF w = x → (∀ (v : Option Nat), mx_D (2, mm_X4_fits, 36, [.ref 18, mx_rf v, .int (iI (i)), .int (iI (3 * (L : Int))), .int (iI (p)), .int (iI (a)), .int (iI (b))], [.int (iI (x))]) h = mx_D (2, mm_X4_fits, m, [.ref 18, mx_rf v, .int (iI (i)), .int (iI (3 * (L : Int))), .int (iI (p)), .int (iI (a)), .int (iI (b))], []) h) → ∀ r, mx_D (2, mm_X4_fits, m, [.ref 18, mx_rf (some (1000 + w)), .int (iI (i)), .int (iI (3 * (L : Int))), .int (iI (p)), .int (iI (a)), .int (iI (b))], []) h = r → mx_D (2, mm_X4_fits, 36, [.ref 18, .ref (1000 + w), .int (iI (i)), .int (iI (3 * (L : Int))), .int (iI (p)), .int (iI (a)), .int (iI (b))], [.int ((mx_wsh.getD (1000 + w - 1000) (0, 0)).1)]) h = r := by
    intro x m hx H r hr
    rw [wsh_s hw hx]
    exact (H (some (1000 + w))).trans hr
  rcases k_cases hk with g | g | g | g | g | g | g | g | g | g
  · refine go 1 88 (by unfold shF; omega) (fun v => e_X4_fits_36_1 v _ _ _ _ _ h) _ ?_
    by_cases q : a = 0
    · rw [← fb1 ((fp_a g).mpr q)]
      simp (disch := omega) only [↓reduceIte, ii_lit, ii_add, ii_sub, ii_mul, ii_neg, ii_lt_t, ii_lt_f, ii_le_t, ii_le_f, ii_eq_t, ii_eq_f, ii_in, ii_cl, ii_shr, ii_shl, ii_and1, ii_and255, Option.bind_some, Option.toList, List.cons_append, List.nil_append, Int.toNat_natCast, mu_s, mu_c, mu_k, bI_i0, bI_i1, bI_n, nb_0, nb_1, bI_ft, bI_ff, Bool.false_eq_true, reduceCtorEq, Bool.true_eq_false, decide_true, decide_false, eq_self, Int.reduceAdd, Int.reduceSub, Int.reduceMul, Int.reduceNeg, Int.reduceToNat, tn30, tn31, tn32, tn20, tn21, e_X4_fits_88, e_X4_fits_98, q]
    · rw [← fb0 (fun z => q ((fp_a g).mp z))]
      simp (disch := omega) only [↓reduceIte, ii_lit, ii_add, ii_sub, ii_mul, ii_neg, ii_lt_t, ii_lt_f, ii_le_t, ii_le_f, ii_eq_t, ii_eq_f, ii_in, ii_cl, ii_shr, ii_shl, ii_and1, ii_and255, Option.bind_some, Option.toList, List.cons_append, List.nil_append, Int.toNat_natCast, mu_s, mu_c, mu_k, bI_i0, bI_i1, bI_n, nb_0, nb_1, bI_ft, bI_ff, Bool.false_eq_true, reduceCtorEq, Bool.true_eq_false, decide_true, decide_false, eq_self, Int.reduceAdd, Int.reduceSub, Int.reduceMul, Int.reduceNeg, Int.reduceToNat, tn30, tn31, tn32, tn20, tn21, e_X4_fits_88, e_X4_fits_98]
  · refine go 2 99 (by unfold shF; omega) (fun v => e_X4_fits_36_2 v _ _ _ _ _ h) _ ?_
    by_cases q : a = b
    · rw [← fb1 ((fp_b g).mpr (by omega))]
      simp (disch := omega) only [↓reduceIte, ii_lit, ii_add, ii_sub, ii_mul, ii_neg, ii_lt_t, ii_lt_f, ii_le_t, ii_le_f, ii_eq_t, ii_eq_f, ii_in, ii_cl, ii_shr, ii_shl, ii_and1, ii_and255, Option.bind_some, Option.toList, List.cons_append, List.nil_append, Int.toNat_natCast, mu_s, mu_c, mu_k, bI_i0, bI_i1, bI_n, nb_0, nb_1, bI_ft, bI_ff, Bool.false_eq_true, reduceCtorEq, Bool.true_eq_false, decide_true, decide_false, eq_self, Int.reduceAdd, Int.reduceSub, Int.reduceMul, Int.reduceNeg, Int.reduceToNat, tn30, tn31, tn32, tn20, tn21, e_X4_fits_99, e_X4_fits_111, q]
    · rw [← fb0 (fun z => (by have := (fp_b g).mp z; omega))]
      simp (disch := omega) only [↓reduceIte, ii_lit, ii_add, ii_sub, ii_mul, ii_neg, ii_lt_t, ii_lt_f, ii_le_t, ii_le_f, ii_eq_t, ii_eq_f, ii_in, ii_cl, ii_shr, ii_shl, ii_and1, ii_and255, Option.bind_some, Option.toList, List.cons_append, List.nil_append, Int.toNat_natCast, mu_s, mu_c, mu_k, bI_i0, bI_i1, bI_n, nb_0, nb_1, bI_ft, bI_ff, Bool.false_eq_true, reduceCtorEq, Bool.true_eq_false, decide_true, decide_false, eq_self, Int.reduceAdd, Int.reduceSub, Int.reduceMul, Int.reduceNeg, Int.reduceToNat, tn30, tn31, tn32, tn20, tn21, e_X4_fits_99, e_X4_fits_111]
  · refine go 3 112 (by unfold shF; omega) (fun v => e_X4_fits_36_3 v _ _ _ _ _ h) _ ?_
    by_cases z0 : i = 0
    · by_cases q : a = 0
      · rw [← fb1 ((fp_c g).mpr (by rw [if_pos z0]; exact q))]
        simp (disch := omega) only [↓reduceIte, ii_lit, ii_add, ii_sub, ii_mul, ii_neg, ii_lt_t, ii_lt_f, ii_le_t, ii_le_f, ii_eq_t, ii_eq_f, ii_in, ii_cl, ii_shr, ii_shl, ii_and1, ii_and255, Option.bind_some, Option.toList, List.cons_append, List.nil_append, Int.toNat_natCast, mu_s, mu_c, mu_k, bI_i0, bI_i1, bI_n, nb_0, nb_1, bI_ft, bI_ff, Bool.false_eq_true, reduceCtorEq, Bool.true_eq_false, decide_true, decide_false, eq_self, Int.reduceAdd, Int.reduceSub, Int.reduceMul, Int.reduceNeg, Int.reduceToNat, tn30, tn31, tn32, tn20, tn21, e_X4_fits_112, e_X4_fits_154, q]
      · rw [← fb0 (fun z => (by have := (fp_c g).mp z; rw [if_pos z0] at this; exact q this))]
        simp (disch := omega) only [↓reduceIte, ii_lit, ii_add, ii_sub, ii_mul, ii_neg, ii_lt_t, ii_lt_f, ii_le_t, ii_le_f, ii_eq_t, ii_eq_f, ii_in, ii_cl, ii_shr, ii_shl, ii_and1, ii_and255, Option.bind_some, Option.toList, List.cons_append, List.nil_append, Int.toNat_natCast, mu_s, mu_c, mu_k, bI_i0, bI_i1, bI_n, nb_0, nb_1, bI_ft, bI_ff, Bool.false_eq_true, reduceCtorEq, Bool.true_eq_false, decide_true, decide_false, eq_self, Int.reduceAdd, Int.reduceSub, Int.reduceMul, Int.reduceNeg, Int.reduceToNat, tn30, tn31, tn32, tn20, tn21, e_X4_fits_112, e_X4_fits_154]
    · obtain ⟨x, x1, x2, x3, x4, x5⟩ := i1 (by omega)
      rw [x1]
      have e2 : (3 * (L : Int) + 1).toNat = 3 * L + 1 := by omega
      by_cases q : a = x
      · rw [← fb1 ((fp_c g).mpr (by rw [if_neg z0]; omega))]
        simp (disch := omega) only [↓reduceIte, ii_lit, ii_add, ii_sub, ii_mul, ii_neg, ii_lt_t, ii_lt_f, ii_le_t, ii_le_f, ii_eq_t, ii_eq_f, ii_in, ii_cl, ii_shr, ii_shl, ii_and1, ii_and255, Option.bind_some, Option.toList, List.cons_append, List.nil_append, Int.toNat_natCast, mu_s, mu_c, mu_k, bI_i0, bI_i1, bI_n, nb_0, nb_1, bI_ft, bI_ff, Bool.false_eq_true, reduceCtorEq, Bool.true_eq_false, decide_true, decide_false, eq_self, Int.reduceAdd, Int.reduceSub, Int.reduceMul, Int.reduceNeg, Int.reduceToNat, tn30, tn31, tn32, tn20, tn21, e_X4_fits_112, e_X4_fits_154, e_X4_fits_146, x3, x4, e2, q]
      · rw [← fb0 (fun z => (by have := (fp_c g).mp z; rw [if_neg z0] at this; omega))]
        simp (disch := omega) only [↓reduceIte, ii_lit, ii_add, ii_sub, ii_mul, ii_neg, ii_lt_t, ii_lt_f, ii_le_t, ii_le_f, ii_eq_t, ii_eq_f, ii_in, ii_cl, ii_shr, ii_shl, ii_and1, ii_and255, Option.bind_some, Option.toList, List.cons_append, List.nil_append, Int.toNat_natCast, mu_s, mu_c, mu_k, bI_i0, bI_i1, bI_n, nb_0, nb_1, bI_ft, bI_ff, Bool.false_eq_true, reduceCtorEq, Bool.true_eq_false, decide_true, decide_false, eq_self, Int.reduceAdd, Int.reduceSub, Int.reduceMul, Int.reduceNeg, Int.reduceToNat, tn30, tn31, tn32, tn20, tn21, e_X4_fits_112, e_X4_fits_154, e_X4_fits_146, x3, x4, e2]
  · refine go 4 155 (by unfold shF; omega) (fun v => e_X4_fits_36_4 v _ _ _ _ _ h) _ ?_
    rw [e_X4_fits_155, X10_isWord_c h (by omega)]
    by_cases q : 1 ≤ a ∧ a ≤ 4
    · have e : decide (1 ≤ a ∧ a ≤ 4) = true := decide_eq_true q
      by_cases q2 : a = b
      · rw [← fb1 ((fp_d (by omega)).mpr (by omega))]
        simp (disch := omega) only [↓reduceIte, ii_lit, ii_add, ii_sub, ii_mul, ii_neg, ii_lt_t, ii_lt_f, ii_le_t, ii_le_f, ii_eq_t, ii_eq_f, ii_in, ii_cl, ii_shr, ii_shl, ii_and1, ii_and255, Option.bind_some, Option.toList, List.cons_append, List.nil_append, Int.toNat_natCast, mu_s, mu_c, mu_k, bI_i0, bI_i1, bI_n, nb_0, nb_1, bI_ft, bI_ff, Bool.false_eq_true, reduceCtorEq, Bool.true_eq_false, decide_true, decide_false, eq_self, Int.reduceAdd, Int.reduceSub, Int.reduceMul, Int.reduceNeg, Int.reduceToNat, tn30, tn31, tn32, tn20, tn21, e_X4_fits_160, e_X4_fits_174, e_X4_fits_175, e]
      · rw [← fb0 (fun z => (by have := (fp_d (by omega)).mp z; omega))]
        simp (disch := omega) only [↓reduceIte, ii_lit, ii_add, ii_sub, ii_mul, ii_neg, ii_lt_t, ii_lt_f, ii_le_t, ii_le_f, ii_eq_t, ii_eq_f, ii_in, ii_cl, ii_shr, ii_shl, ii_and1, ii_and255, Option.bind_some, Option.toList, List.cons_append, List.nil_append, Int.toNat_natCast, mu_s, mu_c, mu_k, bI_i0, bI_i1, bI_n, nb_0, nb_1, bI_ft, bI_ff, Bool.false_eq_true, reduceCtorEq, Bool.true_eq_false, decide_true, decide_false, eq_self, Int.reduceAdd, Int.reduceSub, Int.reduceMul, Int.reduceNeg, Int.reduceToNat, tn30, tn31, tn32, tn20, tn21, e_X4_fits_160, e_X4_fits_174, e_X4_fits_175, e]
    · have e : decide (1 ≤ a ∧ a ≤ 4) = false := decide_eq_false q
      rw [← fb0 (fun z => (by have := (fp_d (by omega)).mp z; omega))]
      simp (disch := omega) only [↓reduceIte, ii_lit, ii_add, ii_sub, ii_mul, ii_neg, ii_lt_t, ii_lt_f, ii_le_t, ii_le_f, ii_eq_t, ii_eq_f, ii_in, ii_cl, ii_shr, ii_shl, ii_and1, ii_and255, Option.bind_some, Option.toList, List.cons_append, List.nil_append, Int.toNat_natCast, mu_s, mu_c, mu_k, bI_i0, bI_i1, bI_n, nb_0, nb_1, bI_ft, bI_ff, Bool.false_eq_true, reduceCtorEq, Bool.true_eq_false, decide_true, decide_false, eq_self, Int.reduceAdd, Int.reduceSub, Int.reduceMul, Int.reduceNeg, Int.reduceToNat, tn30, tn31, tn32, tn20, tn21, e_X4_fits_160, e_X4_fits_174, e_X4_fits_175, e]
  · refine go 5 155 (by unfold shF; omega) (fun v => e_X4_fits_36_5 v _ _ _ _ _ h) _ ?_
    rw [e_X4_fits_155, X10_isWord_c h (by omega)]
    by_cases q : 1 ≤ a ∧ a ≤ 4
    · have e : decide (1 ≤ a ∧ a ≤ 4) = true := decide_eq_true q
      by_cases q2 : a = b
      · rw [← fb1 ((fp_d (by omega)).mpr (by omega))]
        simp (disch := omega) only [↓reduceIte, ii_lit, ii_add, ii_sub, ii_mul, ii_neg, ii_lt_t, ii_lt_f, ii_le_t, ii_le_f, ii_eq_t, ii_eq_f, ii_in, ii_cl, ii_shr, ii_shl, ii_and1, ii_and255, Option.bind_some, Option.toList, List.cons_append, List.nil_append, Int.toNat_natCast, mu_s, mu_c, mu_k, bI_i0, bI_i1, bI_n, nb_0, nb_1, bI_ft, bI_ff, Bool.false_eq_true, reduceCtorEq, Bool.true_eq_false, decide_true, decide_false, eq_self, Int.reduceAdd, Int.reduceSub, Int.reduceMul, Int.reduceNeg, Int.reduceToNat, tn30, tn31, tn32, tn20, tn21, e_X4_fits_160, e_X4_fits_174, e_X4_fits_175, e]
      · rw [← fb0 (fun z => (by have := (fp_d (by omega)).mp z; omega))]
        simp (disch := omega) only [↓reduceIte, ii_lit, ii_add, ii_sub, ii_mul, ii_neg, ii_lt_t, ii_lt_f, ii_le_t, ii_le_f, ii_eq_t, ii_eq_f, ii_in, ii_cl, ii_shr, ii_shl, ii_and1, ii_and255, Option.bind_some, Option.toList, List.cons_append, List.nil_append, Int.toNat_natCast, mu_s, mu_c, mu_k, bI_i0, bI_i1, bI_n, nb_0, nb_1, bI_ft, bI_ff, Bool.false_eq_true, reduceCtorEq, Bool.true_eq_false, decide_true, decide_false, eq_self, Int.reduceAdd, Int.reduceSub, Int.reduceMul, Int.reduceNeg, Int.reduceToNat, tn30, tn31, tn32, tn20, tn21, e_X4_fits_160, e_X4_fits_174, e_X4_fits_175, e]
    · have e : decide (1 ≤ a ∧ a ≤ 4) = false := decide_eq_false q
      rw [← fb0 (fun z => (by have := (fp_d (by omega)).mp z; omega))]
      simp (disch := omega) only [↓reduceIte, ii_lit, ii_add, ii_sub, ii_mul, ii_neg, ii_lt_t, ii_lt_f, ii_le_t, ii_le_f, ii_eq_t, ii_eq_f, ii_in, ii_cl, ii_shr, ii_shl, ii_and1, ii_and255, Option.bind_some, Option.toList, List.cons_append, List.nil_append, Int.toNat_natCast, mu_s, mu_c, mu_k, bI_i0, bI_i1, bI_n, nb_0, nb_1, bI_ft, bI_ff, Bool.false_eq_true, reduceCtorEq, Bool.true_eq_false, decide_true, decide_false, eq_self, Int.reduceAdd, Int.reduceSub, Int.reduceMul, Int.reduceNeg, Int.reduceToNat, tn30, tn31, tn32, tn20, tn21, e_X4_fits_160, e_X4_fits_174, e_X4_fits_175, e]
  · refine go 6 176 (by unfold shF; omega) (fun v => e_X4_fits_36_6 v _ _ _ _ _ h) _ ?_
    rw [e_X4_fits_176, X10_isWord_c h (by omega)]
    by_cases q : 1 ≤ a ∧ a ≤ 4
    · have e : decide (1 ≤ a ∧ a ≤ 4) = true := decide_eq_true q
      by_cases z0 : i = 0
      · rw [← fb1 ((fp_e g).mpr (by omega))]
        simp (disch := omega) only [↓reduceIte, ii_lit, ii_add, ii_sub, ii_mul, ii_neg, ii_lt_t, ii_lt_f, ii_le_t, ii_le_f, ii_eq_t, ii_eq_f, ii_in, ii_cl, ii_shr, ii_shl, ii_and1, ii_and255, Option.bind_some, Option.toList, List.cons_append, List.nil_append, Int.toNat_natCast, mu_s, mu_c, mu_k, bI_i0, bI_i1, bI_n, nb_0, nb_1, bI_ft, bI_ff, Bool.false_eq_true, reduceCtorEq, Bool.true_eq_false, decide_true, decide_false, eq_self, Int.reduceAdd, Int.reduceSub, Int.reduceMul, Int.reduceNeg, Int.reduceToNat, tn30, tn31, tn32, tn20, tn21, e_X4_fits_181, e_X4_fits_197, e_X4_fits_201, e_X4_fits_202, e]
      · by_cases q2 : a + b ≤ 4
        · rw [← fb1 ((fp_e g).mpr (by omega))]
          simp (disch := omega) only [↓reduceIte, ii_lit, ii_add, ii_sub, ii_mul, ii_neg, ii_lt_t, ii_lt_f, ii_le_t, ii_le_f, ii_eq_t, ii_eq_f, ii_in, ii_cl, ii_shr, ii_shl, ii_and1, ii_and255, Option.bind_some, Option.toList, List.cons_append, List.nil_append, Int.toNat_natCast, mu_s, mu_c, mu_k, bI_i0, bI_i1, bI_n, nb_0, nb_1, bI_ft, bI_ff, Bool.false_eq_true, reduceCtorEq, Bool.true_eq_false, decide_true, decide_false, eq_self, Int.reduceAdd, Int.reduceSub, Int.reduceMul, Int.reduceNeg, Int.reduceToNat, tn30, tn31, tn32, tn20, tn21, e_X4_fits_181, e_X4_fits_197, e_X4_fits_201, e_X4_fits_202, e]
        · rw [← fb0 (fun z => (by have := (fp_e g).mp z; omega))]
          simp (disch := omega) only [↓reduceIte, ii_lit, ii_add, ii_sub, ii_mul, ii_neg, ii_lt_t, ii_lt_f, ii_le_t, ii_le_f, ii_eq_t, ii_eq_f, ii_in, ii_cl, ii_shr, ii_shl, ii_and1, ii_and255, Option.bind_some, Option.toList, List.cons_append, List.nil_append, Int.toNat_natCast, mu_s, mu_c, mu_k, bI_i0, bI_i1, bI_n, nb_0, nb_1, bI_ft, bI_ff, Bool.false_eq_true, reduceCtorEq, Bool.true_eq_false, decide_true, decide_false, eq_self, Int.reduceAdd, Int.reduceSub, Int.reduceMul, Int.reduceNeg, Int.reduceToNat, tn30, tn31, tn32, tn20, tn21, e_X4_fits_181, e_X4_fits_197, e_X4_fits_201, e_X4_fits_202, e]
    · have e : decide (1 ≤ a ∧ a ≤ 4) = false := decide_eq_false q
      rw [← fb0 (fun z => (by have := (fp_e g).mp z; omega))]
      simp (disch := omega) only [↓reduceIte, ii_lit, ii_add, ii_sub, ii_mul, ii_neg, ii_lt_t, ii_lt_f, ii_le_t, ii_le_f, ii_eq_t, ii_eq_f, ii_in, ii_cl, ii_shr, ii_shl, ii_and1, ii_and255, Option.bind_some, Option.toList, List.cons_append, List.nil_append, Int.toNat_natCast, mu_s, mu_c, mu_k, bI_i0, bI_i1, bI_n, nb_0, nb_1, bI_ft, bI_ff, Bool.false_eq_true, reduceCtorEq, Bool.true_eq_false, decide_true, decide_false, eq_self, Int.reduceAdd, Int.reduceSub, Int.reduceMul, Int.reduceNeg, Int.reduceToNat, tn30, tn31, tn32, tn20, tn21, e_X4_fits_181, e_X4_fits_197, e_X4_fits_201, e_X4_fits_202, e]
  · refine go 7 203 (by unfold shF; omega) (fun v => e_X4_fits_36_7 v _ _ _ _ _ h) _ ?_
    rw [e_X4_fits_203, X10_isWord_c h (by omega)]
    by_cases q : 1 ≤ a ∧ a ≤ 4
    · have e : decide (1 ≤ a ∧ a ≤ 4) = true := decide_eq_true q
      by_cases q2 : a ≤ p
      · rw [← fb0 (fun z => (by have := (fp_f g).mp z; omega))]
        simp (disch := omega) only [↓reduceIte, ii_lit, ii_add, ii_sub, ii_mul, ii_neg, ii_lt_t, ii_lt_f, ii_le_t, ii_le_f, ii_eq_t, ii_eq_f, ii_in, ii_cl, ii_shr, ii_shl, ii_and1, ii_and255, Option.bind_some, Option.toList, List.cons_append, List.nil_append, Int.toNat_natCast, mu_s, mu_c, mu_k, bI_i0, bI_i1, bI_n, nb_0, nb_1, bI_ft, bI_ff, Bool.false_eq_true, reduceCtorEq, Bool.true_eq_false, decide_true, decide_false, eq_self, Int.reduceAdd, Int.reduceSub, Int.reduceMul, Int.reduceNeg, Int.reduceToNat, tn30, tn31, tn32, tn20, tn21, e_X4_fits_208, e_X4_fits_222, e_X4_fits_223, e]
      · rw [← fb1 ((fp_f g).mpr (by omega))]
        simp (disch := omega) only [↓reduceIte, ii_lit, ii_add, ii_sub, ii_mul, ii_neg, ii_lt_t, ii_lt_f, ii_le_t, ii_le_f, ii_eq_t, ii_eq_f, ii_in, ii_cl, ii_shr, ii_shl, ii_and1, ii_and255, Option.bind_some, Option.toList, List.cons_append, List.nil_append, Int.toNat_natCast, mu_s, mu_c, mu_k, bI_i0, bI_i1, bI_n, nb_0, nb_1, bI_ft, bI_ff, Bool.false_eq_true, reduceCtorEq, Bool.true_eq_false, decide_true, decide_false, eq_self, Int.reduceAdd, Int.reduceSub, Int.reduceMul, Int.reduceNeg, Int.reduceToNat, tn30, tn31, tn32, tn20, tn21, e_X4_fits_208, e_X4_fits_222, e_X4_fits_223, e]
    · have e : decide (1 ≤ a ∧ a ≤ 4) = false := decide_eq_false q
      rw [← fb0 (fun z => (by have := (fp_f g).mp z; omega))]
      simp (disch := omega) only [↓reduceIte, ii_lit, ii_add, ii_sub, ii_mul, ii_neg, ii_lt_t, ii_lt_f, ii_le_t, ii_le_f, ii_eq_t, ii_eq_f, ii_in, ii_cl, ii_shr, ii_shl, ii_and1, ii_and255, Option.bind_some, Option.toList, List.cons_append, List.nil_append, Int.toNat_natCast, mu_s, mu_c, mu_k, bI_i0, bI_i1, bI_n, nb_0, nb_1, bI_ft, bI_ff, Bool.false_eq_true, reduceCtorEq, Bool.true_eq_false, decide_true, decide_false, eq_self, Int.reduceAdd, Int.reduceSub, Int.reduceMul, Int.reduceNeg, Int.reduceToNat, tn30, tn31, tn32, tn20, tn21, e_X4_fits_208, e_X4_fits_222, e_X4_fits_223, e]
  · refine go 8 224 (by unfold shF; omega) (fun v => e_X4_fits_36_8 v _ _ _ _ _ h) _ ?_
    rw [e_X4_fits_224, X10_isWord_c h (by omega)]
    by_cases q : 1 ≤ a ∧ a ≤ 4
    · have e : decide (1 ≤ a ∧ a ≤ 4) = true := decide_eq_true q
      by_cases q2 : 4 < a + p
      · rw [← fb0 (fun z => (by have := (fp_g g).mp z; omega))]
        simp (disch := omega) only [↓reduceIte, ii_lit, ii_add, ii_sub, ii_mul, ii_neg, ii_lt_t, ii_lt_f, ii_le_t, ii_le_f, ii_eq_t, ii_eq_f, ii_in, ii_cl, ii_shr, ii_shl, ii_and1, ii_and255, Option.bind_some, Option.toList, List.cons_append, List.nil_append, Int.toNat_natCast, mu_s, mu_c, mu_k, bI_i0, bI_i1, bI_n, nb_0, nb_1, bI_ft, bI_ff, Bool.false_eq_true, reduceCtorEq, Bool.true_eq_false, decide_true, decide_false, eq_self, Int.reduceAdd, Int.reduceSub, Int.reduceMul, Int.reduceNeg, Int.reduceToNat, tn30, tn31, tn32, tn20, tn21, e_X4_fits_229, e_X4_fits_245, e_X4_fits_246, e]
      · rw [← fb1 ((fp_g g).mpr (by omega))]
        simp (disch := omega) only [↓reduceIte, ii_lit, ii_add, ii_sub, ii_mul, ii_neg, ii_lt_t, ii_lt_f, ii_le_t, ii_le_f, ii_eq_t, ii_eq_f, ii_in, ii_cl, ii_shr, ii_shl, ii_and1, ii_and255, Option.bind_some, Option.toList, List.cons_append, List.nil_append, Int.toNat_natCast, mu_s, mu_c, mu_k, bI_i0, bI_i1, bI_n, nb_0, nb_1, bI_ft, bI_ff, Bool.false_eq_true, reduceCtorEq, Bool.true_eq_false, decide_true, decide_false, eq_self, Int.reduceAdd, Int.reduceSub, Int.reduceMul, Int.reduceNeg, Int.reduceToNat, tn30, tn31, tn32, tn20, tn21, e_X4_fits_229, e_X4_fits_245, e_X4_fits_246, e]
    · have e : decide (1 ≤ a ∧ a ≤ 4) = false := decide_eq_false q
      rw [← fb0 (fun z => (by have := (fp_g g).mp z; omega))]
      simp (disch := omega) only [↓reduceIte, ii_lit, ii_add, ii_sub, ii_mul, ii_neg, ii_lt_t, ii_lt_f, ii_le_t, ii_le_f, ii_eq_t, ii_eq_f, ii_in, ii_cl, ii_shr, ii_shl, ii_and1, ii_and255, Option.bind_some, Option.toList, List.cons_append, List.nil_append, Int.toNat_natCast, mu_s, mu_c, mu_k, bI_i0, bI_i1, bI_n, nb_0, nb_1, bI_ft, bI_ff, Bool.false_eq_true, reduceCtorEq, Bool.true_eq_false, decide_true, decide_false, eq_self, Int.reduceAdd, Int.reduceSub, Int.reduceMul, Int.reduceNeg, Int.reduceToNat, tn30, tn31, tn32, tn20, tn21, e_X4_fits_229, e_X4_fits_245, e_X4_fits_246, e]
  all_goals
    refine go 9 247 (by unfold shF; omega) (fun v => e_X4_fits_36_9 v _ _ _ _ _ h) _ ?_
    by_cases z0 : i = 0
    · by_cases q : 4 < a
      · have e : decide (4 < a) = true := decide_eq_true q
        rw [← fb1 ((fp_h (by omega)).mpr (by rw [if_pos z0]; exact q))]
        simp (disch := omega) only [↓reduceIte, ii_lit, ii_add, ii_sub, ii_mul, ii_neg, ii_lt_t, ii_lt_f, ii_le_t, ii_le_f, ii_eq_t, ii_eq_f, ii_in, ii_cl, ii_shr, ii_shl, ii_and1, ii_and255, Option.bind_some, Option.toList, List.cons_append, List.nil_append, Int.toNat_natCast, mu_s, mu_c, mu_k, bI_i0, bI_i1, bI_n, nb_0, nb_1, bI_ft, bI_ff, Bool.false_eq_true, reduceCtorEq, Bool.true_eq_false, decide_true, decide_false, eq_self, Int.reduceAdd, Int.reduceSub, Int.reduceMul, Int.reduceNeg, Int.reduceToNat, tn30, tn31, tn32, tn20, tn21, e_X4_fits_247, X10_isArray_c, e_X4_fits_256, e_X4_fits_282, e]
      · have e : decide (4 < a) = false := decide_eq_false q
        rw [← fb0 (fun z => (by have := (fp_h (by omega)).mp z; rw [if_pos z0] at this; exact q this))]
        simp (disch := omega) only [↓reduceIte, ii_lit, ii_add, ii_sub, ii_mul, ii_neg, ii_lt_t, ii_lt_f, ii_le_t, ii_le_f, ii_eq_t, ii_eq_f, ii_in, ii_cl, ii_shr, ii_shl, ii_and1, ii_and255, Option.bind_some, Option.toList, List.cons_append, List.nil_append, Int.toNat_natCast, mu_s, mu_c, mu_k, bI_i0, bI_i1, bI_n, nb_0, nb_1, bI_ft, bI_ff, Bool.false_eq_true, reduceCtorEq, Bool.true_eq_false, decide_true, decide_false, eq_self, Int.reduceAdd, Int.reduceSub, Int.reduceMul, Int.reduceNeg, Int.reduceToNat, tn30, tn31, tn32, tn20, tn21, e_X4_fits_247, X10_isArray_c, e_X4_fits_256, e_X4_fits_282, e]
    · by_cases z1 : i = 1
      · by_cases q : a = 1
        · rw [← fb1 ((fp_h (by omega)).mpr (by rw [if_neg z0, if_pos z1]; exact q))]
          simp (disch := omega) only [↓reduceIte, ii_lit, ii_add, ii_sub, ii_mul, ii_neg, ii_lt_t, ii_lt_f, ii_le_t, ii_le_f, ii_eq_t, ii_eq_f, ii_in, ii_cl, ii_shr, ii_shl, ii_and1, ii_and255, Option.bind_some, Option.toList, List.cons_append, List.nil_append, Int.toNat_natCast, mu_s, mu_c, mu_k, bI_i0, bI_i1, bI_n, nb_0, nb_1, bI_ft, bI_ff, Bool.false_eq_true, reduceCtorEq, Bool.true_eq_false, decide_true, decide_false, eq_self, Int.reduceAdd, Int.reduceSub, Int.reduceMul, Int.reduceNeg, Int.reduceToNat, tn30, tn31, tn32, tn20, tn21, e_X4_fits_247, e_X4_fits_274, e_X4_fits_282, q]
        · rw [← fb0 (fun z => (by have := (fp_h (by omega)).mp z; rw [if_neg z0, if_pos z1] at this; exact q this))]
          simp (disch := omega) only [↓reduceIte, ii_lit, ii_add, ii_sub, ii_mul, ii_neg, ii_lt_t, ii_lt_f, ii_le_t, ii_le_f, ii_eq_t, ii_eq_f, ii_in, ii_cl, ii_shr, ii_shl, ii_and1, ii_and255, Option.bind_some, Option.toList, List.cons_append, List.nil_append, Int.toNat_natCast, mu_s, mu_c, mu_k, bI_i0, bI_i1, bI_n, nb_0, nb_1, bI_ft, bI_ff, Bool.false_eq_true, reduceCtorEq, Bool.true_eq_false, decide_true, decide_false, eq_self, Int.reduceAdd, Int.reduceSub, Int.reduceMul, Int.reduceNeg, Int.reduceToNat, tn30, tn31, tn32, tn20, tn21, e_X4_fits_247, e_X4_fits_274, e_X4_fits_282]
      · by_cases q : a = b - 4
        · rw [← fb1 ((fp_h (by omega)).mpr (by rw [if_neg z0, if_neg z1]; exact q))]
          simp (disch := omega) only [↓reduceIte, ii_lit, ii_add, ii_sub, ii_mul, ii_neg, ii_lt_t, ii_lt_f, ii_le_t, ii_le_f, ii_eq_t, ii_eq_f, ii_in, ii_cl, ii_shr, ii_shl, ii_and1, ii_and255, Option.bind_some, Option.toList, List.cons_append, List.nil_append, Int.toNat_natCast, mu_s, mu_c, mu_k, bI_i0, bI_i1, bI_n, nb_0, nb_1, bI_ft, bI_ff, Bool.false_eq_true, reduceCtorEq, Bool.true_eq_false, decide_true, decide_false, eq_self, Int.reduceAdd, Int.reduceSub, Int.reduceMul, Int.reduceNeg, Int.reduceToNat, tn30, tn31, tn32, tn20, tn21, e_X4_fits_247, e_X4_fits_274, e_X4_fits_282, q]
        · rw [← fb0 (fun z => (by have := (fp_h (by omega)).mp z; rw [if_neg z0, if_neg z1] at this; exact q this))]
          simp (disch := omega) only [↓reduceIte, ii_lit, ii_add, ii_sub, ii_mul, ii_neg, ii_lt_t, ii_lt_f, ii_le_t, ii_le_f, ii_eq_t, ii_eq_f, ii_in, ii_cl, ii_shr, ii_shl, ii_and1, ii_and255, Option.bind_some, Option.toList, List.cons_append, List.nil_append, Int.toNat_natCast, mu_s, mu_c, mu_k, bI_i0, bI_i1, bI_n, nb_0, nb_1, bI_ft, bI_ff, Bool.false_eq_true, reduceCtorEq, Bool.true_eq_false, decide_true, decide_false, eq_self, Int.reduceAdd, Int.reduceSub, Int.reduceMul, Int.reduceNeg, Int.reduceToNat, tn30, tn31, tn32, tn20, tn21, e_X4_fits_247, e_X4_fits_274, e_X4_fits_282]
theorem X4_resultSort_c {n : Nat} {ts : Nat → Tm} {h : mx_H} {L w : Nat} {k p q : Int} {ps : List Nat} (T : TermC n ts h.1 h.2.2) (hw : w < 42) (hk : 4 ≤ k ∧ k ≤ 34) (hwk : (w : Int) = k + 7) (hp : 0 ≤ p ∧ p ≤ 99) (hL : L ≤ 8) (P : PrtC L ps h.1) (hn : ∀ t, t ∈ ps → t < n) (hl : ps.length = (np k).toNat) : mx_C mm_X4_resultSort [.ref 18, .ref (1000 + w), .int (iI (3 * (L : Int))), .int (iI (p)), .int (iI (q))] h = some (some (.int (iI (resS k (tS (ts (ps.getD 0 0))) (tS (ts (ps.getD 1 0))) p q))), h) := by
  have hh : 1000 ≤ 1000 + w ∧ 1000 + w < 1042 := by omega
  have nb := np_b hk
  have p0 := P 0 (by omega)
  have c0 := X7_sortOf_c T (hn _ (gd_mem (i := 0) (by omega)))
  have i1 : 1 < ps.length → ∃ x, tS (ts (ps.getD 1 0)) = x ∧ h.1 19 (3 * L + 1) = iI ((ps.getD 1 0 : Nat) : Int) ∧ mx_C mm_X7_sortOf [.ref 6, .int (iI (((ps.getD 1 0 : Nat) : Int)))] h = some (some (.int (iI (x))), h) := fun z => ⟨_, rfl, P 1 z, X7_sortOf_c T (hn _ (gd_mem (i := 1) (by omega)))⟩
  refine Eq.trans (c_X4_resultSort (some (1000 + w)) _ _ _ h) ?_
  rw [e_X4_resultSort_0]
  rw [Nat.add_zero] at p0
  generalize tS (ts (ps.getD 0 0)) = b at *
  have e2 : (3 * (L : Int) + 1).toNat = 3 * L + 1 := by omega
  simp (disch := omega) only [↓reduceIte, ii_lit, ii_add, ii_sub, ii_mul, ii_neg, ii_lt_t, ii_lt_f, ii_le_t, ii_le_f, ii_eq_t, ii_eq_f, ii_in, ii_cl, ii_shr, ii_shl, ii_and1, ii_and255, Option.bind_some, Option.toList, List.cons_append, List.nil_append, Int.toNat_natCast, mu_s, mu_c, mu_k, bI_i0, bI_i1, bI_n, nb_0, nb_1, bI_ft, bI_ff, Bool.false_eq_true, reduceCtorEq, Bool.true_eq_false, decide_true, decide_false, eq_self, Int.reduceAdd, Int.reduceSub, Int.reduceMul, Int.reduceNeg, Int.reduceToNat, tn30, tn31, tn32, tn20, tn21]
  rw [show (3 * (L : Int)).toNat = 3 * L by omega, p0]
  simp (disch := omega) only [↓reduceIte, ii_lit, ii_add, ii_sub, ii_mul, ii_neg, ii_lt_t, ii_lt_f, ii_le_t, ii_le_f, ii_eq_t, ii_eq_f, ii_in, ii_cl, ii_shr, ii_shl, ii_and1, ii_and255, Option.bind_some, Option.toList, List.cons_append, List.nil_append, Int.toNat_natCast, mu_s, mu_c, mu_k, bI_i0, bI_i1, bI_n, nb_0, nb_1, bI_ft, bI_ff, Bool.false_eq_true, reduceCtorEq, Bool.true_eq_false, decide_true, decide_false, eq_self, Int.reduceAdd, Int.reduceSub, Int.reduceMul, Int.reduceNeg, Int.reduceToNat, tn30, tn31, tn32, tn20, tn21, c0]
  refine Eq.trans (e_X4_resultSort_13 (1000 + w) hh _ _ _ _ h) ?_
  have go : ∀ (x : Int) (m : Nat), shF w = x → (∀ (v : Option Nat), mx_D (2, mm_X4_resultSort, 19, [.ref 18, mx_rf v, .int (iI (3 * (L : Int))), .int (iI (p)), .int (iI (q)), .int (iI (b))], [.int (iI (x))]) h = mx_D (2, mm_X4_resultSort, m, [.ref 18, mx_rf v, .int (iI (3 * (L : Int))), .int (iI (p)), .int (iI (q)), .int (iI (b))], []) h) → ∀ r, mx_D (2, mm_X4_resultSort, m, [.ref 18, mx_rf (some (1000 + w)), .int (iI (3 * (L : Int))), .int (iI (p)), .int (iI (q)), .int (iI (b))], []) h = r → mx_D (2, mm_X4_resultSort, 19, [.ref 18, .ref (1000 + w), .int (iI (3 * (L : Int))), .int (iI (p)), .int (iI (q)), .int (iI (b))], [.int ((mx_wsh.getD (1000 + w - 1000) (0, 0)).1)]) h = r := by
    intro x m hx H r hr
    rw [wsh_s hw hx]
    exact (H (some (1000 + w))).trans hr
  rcases k_cases hk with g | g | g | g | g | g | g | g | g | g
  · refine go 1 127 (by unfold shF; omega) (fun v => e_X4_resultSort_19_d v _ _ _ _ 1 (by decide) h) _ ?_
    rw [e_X4_resultSort_127, rs_z (by omega)]; rfl
  · refine go 2 127 (by unfold shF; omega) (fun v => e_X4_resultSort_19_d v _ _ _ _ 2 (by decide) h) _ ?_
    rw [e_X4_resultSort_127, rs_z (by omega)]; rfl
  · subst g
    obtain ⟨x, x1, x2, x3⟩ := i1 (by rw [hl]; decide)
    refine go 3 60 (by unfold shF; omega) (fun v => e_X4_resultSort_19_3 v _ _ _ _ h) _ ?_
    rw [e_X4_resultSort_60, rs_c, x1]
    simp (disch := omega) only [↓reduceIte, ii_lit, ii_add, ii_sub, ii_mul, ii_neg, ii_lt_t, ii_lt_f, ii_le_t, ii_le_f, ii_eq_t, ii_eq_f, ii_in, ii_cl, ii_shr, ii_shl, ii_and1, ii_and255, Option.bind_some, Option.toList, List.cons_append, List.nil_append, Int.toNat_natCast, mu_s, mu_c, mu_k, bI_i0, bI_i1, bI_n, nb_0, nb_1, bI_ft, bI_ff, Bool.false_eq_true, reduceCtorEq, Bool.true_eq_false, decide_true, decide_false, eq_self, Int.reduceAdd, Int.reduceSub, Int.reduceMul, Int.reduceNeg, Int.reduceToNat, tn30, tn31, tn32, tn20, tn21, e2, x2, x3, e_X4_resultSort_75]
  · refine go 4 76 (by unfold shF; omega) (fun v => e_X4_resultSort_19_4 v _ _ _ _ h) _ ?_
    rw [e_X4_resultSort_76, rs_d (by omega)]
  · refine go 5 127 (by unfold shF; omega) (fun v => e_X4_resultSort_19_5 v _ _ _ _ h) _ ?_
    rw [e_X4_resultSort_127, rs_z (by omega)]; rfl
  · subst g
    obtain ⟨x, x1, x2, x3⟩ := i1 (by rw [hl]; decide)
    refine go 6 79 (by unfold shF; omega) (fun v => e_X4_resultSort_19_6 v _ _ _ _ h) _ ?_
    rw [e_X4_resultSort_79, rs_e, x1]
    simp (disch := omega) only [↓reduceIte, ii_lit, ii_add, ii_sub, ii_mul, ii_neg, ii_lt_t, ii_lt_f, ii_le_t, ii_le_f, ii_eq_t, ii_eq_f, ii_in, ii_cl, ii_shr, ii_shl, ii_and1, ii_and255, Option.bind_some, Option.toList, List.cons_append, List.nil_append, Int.toNat_natCast, mu_s, mu_c, mu_k, bI_i0, bI_i1, bI_n, nb_0, nb_1, bI_ft, bI_ff, Bool.false_eq_true, reduceCtorEq, Bool.true_eq_false, decide_true, decide_false, eq_self, Int.reduceAdd, Int.reduceSub, Int.reduceMul, Int.reduceNeg, Int.reduceToNat, tn30, tn31, tn32, tn20, tn21, e2, x2, x3, e_X4_resultSort_96]
  · subst g
    refine go 7 98 (by unfold shF; omega) (fun v => e_X4_resultSort_19_7 v _ _ _ _ h) _ ?_
    rw [e_X4_resultSort_98, rs_f]
    simp (disch := omega) only [↓reduceIte, ii_lit, ii_add, ii_sub, ii_mul, ii_neg, ii_lt_t, ii_lt_f, ii_le_t, ii_le_f, ii_eq_t, ii_eq_f, ii_in, ii_cl, ii_shr, ii_shl, ii_and1, ii_and255, Option.bind_some, Option.toList, List.cons_append, List.nil_append, Int.toNat_natCast, mu_s, mu_c, mu_k, bI_i0, bI_i1, bI_n, nb_0, nb_1, bI_ft, bI_ff, Bool.false_eq_true, reduceCtorEq, Bool.true_eq_false, decide_true, decide_false, eq_self, Int.reduceAdd, Int.reduceSub, Int.reduceMul, Int.reduceNeg, Int.reduceToNat, tn30, tn31, tn32, tn20, tn21]
  · refine go 8 105 (by unfold shF; omega) (fun v => e_X4_resultSort_19_8 v _ _ _ _ h) _ ?_
    rw [e_X4_resultSort_105, rs_g g]
    simp (disch := omega) only [↓reduceIte, ii_lit, ii_add, ii_sub, ii_mul, ii_neg, ii_lt_t, ii_lt_f, ii_le_t, ii_le_f, ii_eq_t, ii_eq_f, ii_in, ii_cl, ii_shr, ii_shl, ii_and1, ii_and255, Option.bind_some, Option.toList, List.cons_append, List.nil_append, Int.toNat_natCast, mu_s, mu_c, mu_k, bI_i0, bI_i1, bI_n, nb_0, nb_1, bI_ft, bI_ff, Bool.false_eq_true, reduceCtorEq, Bool.true_eq_false, decide_true, decide_false, eq_self, Int.reduceAdd, Int.reduceSub, Int.reduceMul, Int.reduceNeg, Int.reduceToNat, tn30, tn31, tn32, tn20, tn21]
  · subst g
    refine go 9 110 (by unfold shF; omega) (fun v => e_X4_resultSort_19_9 v _ _ _ _ h) _ ?_
    have : w = 40 := by omega
    subst this
    rw [e_X4_resultSort_110 _ _ _ _ _ _ rfl, if_neg (c := (mx_rf (some (1000 + 40)) : Value) = .ref 1041) (fun z => (by injection z with z; exact absurd z (by decide))), e_X4_resultSort_126, rs_h]
    simp (disch := omega) only [↓reduceIte, ii_lit, ii_add, ii_sub, ii_mul, ii_neg, ii_lt_t, ii_lt_f, ii_le_t, ii_le_f, ii_eq_t, ii_eq_f, ii_in, ii_cl, ii_shr, ii_shl, ii_and1, ii_and255, Option.bind_some, Option.toList, List.cons_append, List.nil_append, Int.toNat_natCast, mu_s, mu_c, mu_k, bI_i0, bI_i1, bI_n, nb_0, nb_1, bI_ft, bI_ff, Bool.false_eq_true, reduceCtorEq, Bool.true_eq_false, decide_true, decide_false, eq_self, Int.reduceAdd, Int.reduceSub, Int.reduceMul, Int.reduceNeg, Int.reduceToNat, tn30, tn31, tn32, tn20, tn21]
  · subst g
    refine go 9 110 (by unfold shF; omega) (fun v => e_X4_resultSort_19_9 v _ _ _ _ h) _ ?_
    have : w = 41 := by omega
    subst this
    rw [e_X4_resultSort_110 _ _ _ _ _ _ rfl, if_pos (c := (mx_rf (some (1000 + 41)) : Value) = .ref 1041) rfl, e_X4_resultSort_126, rs_i]
