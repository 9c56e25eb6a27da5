/-! the class's limits, and what a command does -/
theorem X10_bitsOf_c {so : Int} (h : mx_H) (hs : 0 ≤ so ∧ so ≤ 8) : mx_C mm_X10_bitsOf [.int (iI (so))] h = some (some (.int (iI (bitsS so))), h) := by
  rw [c_X10_bitsOf, e_X10_bitsOf_0]
  unfold bitsS
  by_cases q0 : so = 0
  · rw [if_pos q0, q0, if_pos (show iI 0 = 0 from rfl)]
    rfl
  rw [if_neg q0, if_neg (show ¬ iI so = 0 from fun z => q0 ((ii_eq (by omega) (by omega)).mp (z.trans (show (0 : Int32) = iI 0 from rfl)))), X10_isWord_c h (by omega)]
  by_cases q1 : 4 < so
  · have e : decide (1 ≤ so ∧ so ≤ 4) = false := decide_eq_false (by omega)
    rw [if_pos q1]
    simp (disch := omega) only [↓reduceIte, ii_lit, ii_add, ii_sub, ii_mul, ii_neg, ii_lt_t, ii_lt_f, ii_le_t, ii_le_f, ii_eq_t, ii_eq_f, ii_in, ii_cl, ii_shr, ii_shl, ii_and1, ii_and255, Option.bind_some, Option.toList, List.cons_append, List.nil_append, Int.toNat_natCast, mu_s, mu_c, mu_k, bI_i0, bI_i1, bI_n, nb_0, nb_1, bI_ft, bI_ff, Bool.false_eq_true, reduceCtorEq, Bool.true_eq_false, decide_true, decide_false, eq_self, Int.reduceAdd, Int.reduceSub, Int.reduceMul, Int.reduceNeg, Int.reduceToNat, tn30, tn31, tn32, tn20, tn21, e_X10_bitsOf_10, e_X10_bitsOf_22, e]
  · have e : decide (1 ≤ so ∧ so ≤ 4) = true := decide_eq_true (by omega)
    rw [if_neg q1]
    simp (disch := omega) only [↓reduceIte, ii_lit, ii_add, ii_sub, ii_mul, ii_neg, ii_lt_t, ii_lt_f, ii_le_t, ii_le_f, ii_eq_t, ii_eq_f, ii_in, ii_cl, ii_shr, ii_shl, ii_and1, ii_and255, Option.bind_some, Option.toList, List.cons_append, List.nil_append, Int.toNat_natCast, mu_s, mu_c, mu_k, bI_i0, bI_i1, bI_n, nb_0, nb_1, bI_ft, bI_ff, Bool.false_eq_true, reduceCtorEq, Bool.true_eq_false, decide_true, decide_false, eq_self, Int.reduceAdd, Int.reduceSub, Int.reduceMul, Int.reduceNeg, Int.reduceToNat, tn30, tn31, tn32, tn20, tn21, e_X10_bitsOf_10, e_X10_bitsOf_22, e]
theorem bitsS_b {so : Int} (hs : 0 ≤ so ∧ so ≤ 8) : 1 ≤ bitsS so ∧ bitsS so ≤ 8 := by
  unfold bitsS
  split
  · omega
  · split <;> omega
/-- what a command that reads well is refused for; 0: nothing -/
def rfs (w : Nat) (so : Int) (s : Sc) (n : Nat) (ts : Nat → Tm) : Int :=
  if (w = 4 ∧ 8 < (sBi s : Int) + bitsS so) ∨ (w = 5 ∧ 12 ≤ sNa s) ∨ (w = 6 ∧ 4 ≤ sNs s) ∨ (w = 7 ∧ sNs s = 0) then -1000
  else if 60 < n + (if w = 4 then 1 else 0) ∨ 2 < hv ts n then -1001 else 0
theorem hv_le (ts : Nat → Tm) : ∀ n, hv ts n ≤ n := by
  intro n
  induction n with
  | zero => exact Nat.le_refl _
  | succ n ih =>
    unfold hv
    split <;> omega
theorem X10_refusal_127 {s : Sc} {n w : Nat} {ts : Nat → Tm} {h : mx_H} {b : Bool} {m : Nat} (T : TermC n ts h.1 h.2.2) (hm : m ≤ 1) (o : Option Nat) : mx_D (12, mm_X10_refusal, 127, [.ref 0, mx_rf o, .int (bI b), .int (iI ((m : Int)))], []) h = some (some (.int (iI (if b = true then -1000 else if 60 < n + m ∨ 2 < hv ts n then -1001 else 0))), h) := by
  rw [e_X10_refusal_127]
  have hb := hv_le ts n
  have n2 := T.2.1
  cases b with
  | true =>
    simp (disch := omega) only [↓reduceIte, ii_lit, ii_add, ii_sub, ii_mul, ii_neg, ii_lt_t, ii_lt_f, ii_le_t, ii_le_f, ii_eq_t, ii_eq_f, ii_in, ii_cl, ii_shr, ii_shl, ii_and1, ii_and255, Option.bind_some, Option.toList, List.cons_append, List.nil_append, Int.toNat_natCast, mu_s, mu_c, mu_k, bI_i0, bI_i1, bI_n, nb_0, nb_1, bI_ft, bI_ff, Bool.false_eq_true, reduceCtorEq, Bool.true_eq_false, decide_true, decide_false, eq_self, Int.reduceAdd, Int.reduceSub, Int.reduceMul, Int.reduceNeg, Int.reduceToNat, tn30, tn31, tn32, tn20, tn21]
  | false =>
    by_cases q : 60 < n + m
    · have e1 : (60 < n + m ∨ 2 < hv ts n) = True := eq_true (Or.inl q)
      simp (disch := omega) only [↓reduceIte, ii_lit, ii_add, ii_sub, ii_mul, ii_neg, ii_lt_t, ii_lt_f, ii_le_t, ii_le_f, ii_eq_t, ii_eq_f, ii_in, ii_cl, ii_shr, ii_shl, ii_and1, ii_and255, Option.bind_some, Option.toList, List.cons_append, List.nil_append, Int.toNat_natCast, mu_s, mu_c, mu_k, bI_i0, bI_i1, bI_n, nb_0, nb_1, bI_ft, bI_ff, Bool.false_eq_true, reduceCtorEq, Bool.true_eq_false, decide_true, decide_false, eq_self, Int.reduceAdd, Int.reduceSub, Int.reduceMul, Int.reduceNeg, Int.reduceToNat, tn30, tn31, tn32, tn20, tn21, T.1, e_X10_refusal_160, e_X10_refusal_167, e1]
    · have e2 := X7_heavyOnes_c T
      by_cases q2 : 2 < hv ts n
      · have e1 : (60 < n + m ∨ 2 < hv ts n) = True := eq_true (Or.inr q2)
        simp (disch := omega) only [↓reduceIte, ii_lit, ii_add, ii_sub, ii_mul, ii_neg, ii_lt_t, ii_lt_f, ii_le_t, ii_le_f, ii_eq_t, ii_eq_f, ii_in, ii_cl, ii_shr, ii_shl, ii_and1, ii_and255, Option.bind_some, Option.toList, List.cons_append, List.nil_append, Int.toNat_natCast, mu_s, mu_c, mu_k, bI_i0, bI_i1, bI_n, nb_0, nb_1, bI_ft, bI_ff, Bool.false_eq_true, reduceCtorEq, Bool.true_eq_false, decide_true, decide_false, eq_self, Int.reduceAdd, Int.reduceSub, Int.reduceMul, Int.reduceNeg, Int.reduceToNat, tn30, tn31, tn32, tn20, tn21, T.1, e2, e_X10_refusal_156, e_X10_refusal_160, e_X10_refusal_167, e1]
      · have e1 : (60 < n + m ∨ 2 < hv ts n) = False := eq_false (by omega)
        simp (disch := omega) only [↓reduceIte, ii_lit, ii_add, ii_sub, ii_mul, ii_neg, ii_lt_t, ii_lt_f, ii_le_t, ii_le_f, ii_eq_t, ii_eq_f, ii_in, ii_cl, ii_shr, ii_shl, ii_and1, ii_and255, Option.bind_some, Option.toList, List.cons_append, List.nil_append, Int.toNat_natCast, mu_s, mu_c, mu_k, bI_i0, bI_i1, bI_n, nb_0, nb_1, bI_ft, bI_ff, Bool.false_eq_true, reduceCtorEq, Bool.true_eq_false, decide_true, decide_false, eq_self, Int.reduceAdd, Int.reduceSub, Int.reduceMul, Int.reduceNeg, Int.reduceToNat, tn30, tn31, tn32, tn20, tn21, T.1, e2, e_X10_refusal_156, e_X10_refusal_160, e_X10_refusal_167, e1]
theorem X10_refusal_c {s : Sc} {n w : Nat} {ts : Nat → Tm} {so : Int} {h : mx_H} (B : ScB s) (S : ScopeC s h.1) (T : TermC n ts h.1 h.2.2) (hw : w = 4 ∨ w = 5 ∨ w = 6 ∨ w = 7) (h4 : w = 4 → h.1 18 6 = iI so ∧ 0 ≤ so ∧ so ≤ 8) : mx_C mm_X10_refusal [.ref 0, .ref (1000 + w)] h = some (some (.int (iI (rfs w so s n ts))), h) := by
  obtain ⟨s1, s2, s3, s4, _⟩ := S
  obtain ⟨b1, b2, b3, b4, _⟩ := B
  refine Eq.trans (c_X10_refusal (some (1000 + w)) h) ?_
  refine Eq.trans (e_X10_refusal_0 (v1 := 1000 + w) (hw_v1 := by omega) ..) ?_
  have P := fun (b : Bool) (m : Nat) (hm : m ≤ 1) => X10_refusal_127 (s := s) (w := w) (b := b) T hm (some (1000 + w))
  rcases hw with rfl | rfl | rfl | rfl
  · obtain ⟨a1, a2⟩ := h4 rfl
    have bb := bitsS_b a2
    rw [if_pos (by decide)]
    refine Eq.trans (e_X10_refusal_10_1 (v1 := some (1000 + 4)) ..) ?_
    rw [e_X10_refusal_36, a1, X10_bitsOf_c h a2, s2]
    refine Eq.trans (e_X10_refusal_53 ..) ?_
    by_cases q : 8 < (sBi s : Int) + bitsS so
    · have := P true 1 (by decide)
      rw [if_pos rfl] at this
      have r : rfs 4 so s n ts = -1000 := by unfold rfs; rw [if_pos (Or.inl ⟨rfl, q⟩)]
      rw [r, if_neg (by rw [ii_add, show (8 : Int32) = iI 8 from rfl, ii_le (by omega)]; omega), e_X10_refusal_64]
      exact this
    · have := P false 1 (by decide)
      rw [if_neg (by decide)] at this
      have r : rfs 4 so s n ts = if 60 < n + 1 ∨ 2 < hv ts n then -1001 else 0 := by unfold rfs; rw [if_neg (by omega)]; rfl
      rw [r, if_pos (by rw [ii_add, show (8 : Int32) = iI 8 from rfl, ii_le (by omega)]; omega), e_X10_refusal_64]
      exact this
  · rw [if_pos (by decide)]
    refine Eq.trans (e_X10_refusal_10_2 (v1 := some (1000 + 5)) ..) ?_
    rw [e_X10_refusal_70, s3]
    by_cases q : 12 ≤ sNa s
    · have := P true 0 (by decide)
      rw [if_pos rfl] at this
      have r : rfs 5 so s n ts = -1000 := by unfold rfs; rw [if_pos (Or.inr (Or.inl ⟨rfl, q⟩))]
      rw [r, if_neg (by rw [show (12 : Int32) = iI 12 from rfl, ii_lt (by omega)]; omega), e_X10_refusal_87]
      exact this
    · have := P false 0 (by decide)
      rw [if_neg (by decide)] at this
      have r : rfs 5 so s n ts = if 60 < n + 0 ∨ 2 < hv ts n then -1001 else 0 := by unfold rfs; rw [if_neg (by omega)]; rfl
      rw [r, if_pos (by rw [show (12 : Int32) = iI 12 from rfl, ii_lt (by omega)]; omega), e_X10_refusal_87]
      exact this
  · rw [if_pos (by decide)]
    refine Eq.trans (e_X10_refusal_10_3 (v1 := some (1000 + 6)) ..) ?_
    rw [e_X10_refusal_91, s4]
    by_cases q : 4 ≤ sNs s
    · have := P true 0 (by decide)
      rw [if_pos rfl] at this
      have r : rfs 6 so s n ts = -1000 := by unfold rfs; rw [if_pos (Or.inr (Or.inr (Or.inl ⟨rfl, q⟩)))]
      rw [r, if_neg (by rw [show (4 : Int32) = iI 4 from rfl, ii_lt (by omega)]; omega), e_X10_refusal_107]
      exact this
    · have := P false 0 (by decide)
      rw [if_neg (by decide)] at this
      have r : rfs 6 so s n ts = if 60 < n + 0 ∨ 2 < hv ts n then -1001 else 0 := by unfold rfs; rw [if_neg (by omega)]; rfl
      rw [r, if_pos (by rw [show (4 : Int32) = iI 4 from rfl, ii_lt (by omega)]; omega), e_X10_refusal_107]
      exact this
  · rw [if_pos (by decide)]
    refine Eq.trans (e_X10_refusal_10_d (v1 := some (1000 + 7)) (hx := by decide) ..) ?_
    rw [e_X10_refusal_111, s4]
    by_cases q : sNs s = 0
    · have := P true 0 (by decide)
      rw [if_pos rfl] at this
      have r : rfs 7 so s n ts = -1000 := by unfold rfs; rw [if_pos (Or.inr (Or.inr (Or.inr ⟨rfl, q⟩)))]
      rw [r, q, if_pos (by decide), e_X10_refusal_126]
      exact this
    · have := P false 0 (by decide)
      rw [if_neg (by decide)] at this
      have r : rfs 7 so s n ts = if 60 < n + 0 ∨ 2 < hv ts n then -1001 else 0 := by unfold rfs; rw [if_neg (by omega)]; rfl
      rw [r, if_neg (by rw [show (0 : Int32) = iI 0 from rfl, ii_eq (by omega) (by omega)]; omega), e_X10_refusal_126]
      exact this
theorem X8_start_any {c : Nat → Int} {len N : Nat} {h : mx_H} (K : TokC c len N h.1 h.2.2) (x : Int32) : ∃ r, mx_C mm_X8_start [.ref 1, .int x] h = some (some (.int r), h) := by
  obtain ⟨a, rfl, a1, a2⟩ := ii_ex x
  have k1 := K.1.1
  have k2 := K.2.2.2
  have tk : ∃ b : Bool, mx_C mm_X8_hasToken [.ref 1, .int (iI (a))] h = some (some (.int (bI b)), h) ∧ (b = true → 0 ≤ a ∧ a < 121) := by
    rw [c_X8_hasToken, e_X8_hasToken_0, k1]
    by_cases q1 : a < 0
    · exact ⟨false, (by simp (disch := omega) only [↓reduceIte, ii_lit, ii_add, ii_sub, ii_mul, ii_neg, ii_lt_t, ii_lt_f, ii_le_t, ii_le_f, ii_eq_t, ii_eq_f, ii_in, ii_cl, ii_shr, ii_shl, ii_and1, ii_and255, Option.bind_some, Option.toList, List.cons_append, List.nil_append, Int.toNat_natCast, mu_s, mu_c, mu_k, bI_i0, bI_i1, bI_n, nb_0, nb_1, bI_ft, bI_ff, Bool.false_eq_true, reduceCtorEq, Bool.true_eq_false, decide_true, decide_false, eq_self, Int.reduceAdd, Int.reduceSub, Int.reduceMul, Int.reduceNeg, Int.reduceToNat, tn30, tn31, tn32, tn20, tn21, e_X8_hasToken_16, e_X8_hasToken_17]), fun z => by cases z⟩
    · by_cases q2 : ((N + 1 : Nat) : Int) ≤ a
      · exact ⟨false, (by simp (disch := omega) only [↓reduceIte, ii_lit, ii_add, ii_sub, ii_mul, ii_neg, ii_lt_t, ii_lt_f, ii_le_t, ii_le_f, ii_eq_t, ii_eq_f, ii_in, ii_cl, ii_shr, ii_shl, ii_and1, ii_and255, Option.bind_some, Option.toList, List.cons_append, List.nil_append, Int.toNat_natCast, mu_s, mu_c, mu_k, bI_i0, bI_i1, bI_n, nb_0, nb_1, bI_ft, bI_ff, Bool.false_eq_true, reduceCtorEq, Bool.true_eq_false, decide_true, decide_false, eq_self, Int.reduceAdd, Int.reduceSub, Int.reduceMul, Int.reduceNeg, Int.reduceToNat, tn30, tn31, tn32, tn20, tn21, e_X8_hasToken_16, e_X8_hasToken_17]), fun z => by cases z⟩
      · exact ⟨true, (by simp (disch := omega) only [↓reduceIte, ii_lit, ii_add, ii_sub, ii_mul, ii_neg, ii_lt_t, ii_lt_f, ii_le_t, ii_le_f, ii_eq_t, ii_eq_f, ii_in, ii_cl, ii_shr, ii_shl, ii_and1, ii_and255, Option.bind_some, Option.toList, List.cons_append, List.nil_append, Int.toNat_natCast, mu_s, mu_c, mu_k, bI_i0, bI_i1, bI_n, nb_0, nb_1, bI_ft, bI_ff, Bool.false_eq_true, reduceCtorEq, Bool.true_eq_false, decide_true, decide_false, eq_self, Int.reduceAdd, Int.reduceSub, Int.reduceMul, Int.reduceNeg, Int.reduceToNat, tn30, tn31, tn32, tn20, tn21, e_X8_hasToken_16, e_X8_hasToken_17]), fun z => by omega⟩
  obtain ⟨b, t1, t2⟩ := tk
  rw [c_X8_start, e_X8_start_0, t1]
  cases b with
  | false => exact ⟨h.1 1 1, (by simp (disch := omega) only [↓reduceIte, ii_lit, ii_add, ii_sub, ii_mul, ii_neg, ii_lt_t, ii_lt_f, ii_le_t, ii_le_f, ii_eq_t, ii_eq_f, ii_in, ii_cl, ii_shr, ii_shl, ii_and1, ii_and255, Option.bind_some, Option.toList, List.cons_append, List.nil_append, Int.toNat_natCast, mu_s, mu_c, mu_k, bI_i0, bI_i1, bI_n, nb_0, nb_1, bI_ft, bI_ff, Bool.false_eq_true, reduceCtorEq, Bool.true_eq_false, decide_true, decide_false, eq_self, Int.reduceAdd, Int.reduceSub, Int.reduceMul, Int.reduceNeg, Int.reduceToNat, tn30, tn31, tn32, tn20, tn21, e_X8_start_5, e_X8_start_21])⟩
  | true =>
    have := t2 rfl
    exact ⟨h.1 3 a.toNat, (by simp (disch := omega) only [↓reduceIte, ii_lit, ii_add, ii_sub, ii_mul, ii_neg, ii_lt_t, ii_lt_f, ii_le_t, ii_le_f, ii_eq_t, ii_eq_f, ii_in, ii_cl, ii_shr, ii_shl, ii_and1, ii_and255, Option.bind_some, Option.toList, List.cons_append, List.nil_append, Int.toNat_natCast, mu_s, mu_c, mu_k, bI_i0, bI_i1, bI_n, nb_0, nb_1, bI_ft, bI_ff, Bool.false_eq_true, reduceCtorEq, Bool.true_eq_false, decide_true, decide_false, eq_self, Int.reduceAdd, Int.reduceSub, Int.reduceMul, Int.reduceNeg, Int.reduceToNat, tn30, tn31, tn32, tn20, tn21, e_X8_start_5, e_X8_start_21])⟩
