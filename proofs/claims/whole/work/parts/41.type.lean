/-! type, class and reference -/
theorem X11_in_c {a b c : Int} (h : mx_H) (hr : i32 a ∧ i32 b ∧ i32 c) : mx_C mm_X11_in [.int (iI a), .int (iI b), .int (iI c)] h = some (some (.int (bI (decide (b ≤ a ∧ a ≤ c)))), h) := by
  rw [c_X11_in, e_X11_in_0]
  by_cases h1 : b ≤ a ∧ a ≤ c
  · rw [decide_eq_true h1]
    simp (disch := omega) only [↓reduceIte, ii_lit, ii_add, ii_sub, ii_mul, ii_neg, ii_lt_t, ii_lt_f, ii_le_t, ii_le_f, ii_eq_t, ii_eq_f, ii_in, ii_cl, ii_shr, ii_shl, ii_and1, ii_and255, Option.bind_some, Option.toList, List.cons_append, List.nil_append, Int.toNat_natCast, mu_s, mu_c, mu_k, bI_i0, bI_i1, bI_n, nb_0, nb_1, bI_ft, bI_ff, Bool.false_eq_true, reduceCtorEq, Bool.true_eq_false, decide_true, decide_false, eq_self, Int.reduceAdd, Int.reduceSub, Int.reduceMul, Int.reduceNeg, Int.reduceToNat, tn30, tn31, tn32, tn20, tn21, e_X11_in_14, e_X11_in_15]
  · rw [decide_eq_false h1]
    by_cases h2 : a < b
    · simp (disch := omega) only [↓reduceIte, ii_lit, ii_add, ii_sub, ii_mul, ii_neg, ii_lt_t, ii_lt_f, ii_le_t, ii_le_f, ii_eq_t, ii_eq_f, ii_in, ii_cl, ii_shr, ii_shl, ii_and1, ii_and255, Option.bind_some, Option.toList, List.cons_append, List.nil_append, Int.toNat_natCast, mu_s, mu_c, mu_k, bI_i0, bI_i1, bI_n, nb_0, nb_1, bI_ft, bI_ff, Bool.false_eq_true, reduceCtorEq, Bool.true_eq_false, decide_true, decide_false, eq_self, Int.reduceAdd, Int.reduceSub, Int.reduceMul, Int.reduceNeg, Int.reduceToNat, tn30, tn31, tn32, tn20, tn21, e_X11_in_14, e_X11_in_15]
    · simp (disch := omega) only [↓reduceIte, ii_lit, ii_add, ii_sub, ii_mul, ii_neg, ii_lt_t, ii_lt_f, ii_le_t, ii_le_f, ii_eq_t, ii_eq_f, ii_in, ii_cl, ii_shr, ii_shl, ii_and1, ii_and255, Option.bind_some, Option.toList, List.cons_append, List.nil_append, Int.toNat_natCast, mu_s, mu_c, mu_k, bI_i0, bI_i1, bI_n, nb_0, nb_1, bI_ft, bI_ff, Bool.false_eq_true, reduceCtorEq, Bool.true_eq_false, decide_true, decide_false, eq_self, Int.reduceAdd, Int.reduceSub, Int.reduceMul, Int.reduceNeg, Int.reduceToNat, tn30, tn31, tn32, tn20, tn21, e_X11_in_14, e_X11_in_15]
/-- the byte i of w -/
def byt (w : Int) (i : Nat) : Int := w / 2 ^ (8 * i) % 256
theorem byt_b (w : Int) (i : Nat) : 0 ≤ byt w i ∧ byt w i < 256 := by unfold byt; omega
theorem byt_e {w : Int} {i : Nat} (hr : i32 w) (hi : i < 4) : (iI w >>> (iI (8 * i) &&& iI 31)) &&& iI 255 = iI (byt w i) := by
  rw [ii_shr (by omega), ii_and255]
  rw [show (8 * (i : Int)).toNat = 8 * i by omega]; rfl
theorem X8_byteOf_c {w : Int} {i : Nat} (h : mx_H) (hr : i32 w) (hi : i < 4) : mx_C mm_X8_byteOf [.int (iI w), .int (iI i)] h = some (some (.int (iI (byt w i))), h) := by
  rw [c_X8_byteOf, e_X8_byteOf_0]
  simp (disch := omega) only [ii_lit, ii_mul, byt_e]
/-- all bytes below n are characters -/
def bok (w : Int) (n : Nat) : Prop := ∀ i, i < n → 32 ≤ byt w i ∧ byt w i ≤ 126
/-- the texts after k of the n characters are written -/
def tyU (f : Nat → Nat → Int32) (o a : Nat) (len : Nat) (w : Int) (n k : Nat) : Nat → Nat → Int32 := fun b j => if b = o ∧ j = 1 then iI ((len + k : Nat) : Int) else if b = a ∧ len ≤ j ∧ j < len + k then iI (byt w (n - 1 - (j - len))) else f b j
theorem tyU_0 {f : Nat → Nat → Int32} {o a len : Nat} {w : Int} {n : Nat} (hl : f o 1 = iI len) : tyU f o a len w n 0 = f := by
  funext b j
  unfold tyU
  by_cases h : b = o ∧ j = 1
  · rw [if_pos h, h.1, h.2, hl]; rfl
  · rw [if_neg h, if_neg (by omega)]
theorem tyU_s {f : Nat → Nat → Int32} {o a len : Nat} {w : Int} {n k : Nat} (hoa : o ≠ a) : mx_u (mx_u (tyU f o a len w n k) a (len + k) (iI (byt w (n - 1 - k)))) o 1 (iI (((len + k : Nat) : Int) + 1)) = tyU f o a len w n (k + 1) := by
  funext b j
  unfold mx_u
  by_cases h : b = o ∧ j = 1
  · rw [if_pos h]; unfold tyU; rw [if_pos h]; rfl
  · rw [if_neg h]
    by_cases h2 : b = a ∧ j = len + k
    · rw [if_pos h2]; unfold tyU; rw [if_neg h, if_pos (by omega), h2.2, Nat.add_sub_cancel_left]
    · rw [if_neg h2]; unfold tyU; rw [if_neg h, if_neg h]
      by_cases h3 : b = a ∧ len ≤ j ∧ j < len + k
      · rw [if_pos h3, if_pos (by omega)]
      · rw [if_neg h3, if_neg (by omega)]
theorem X8_append_25 {w : Int} {n : Nat} {h : mx_H} (hr : i32 w) (hn : n ≤ 4) : ∀ (d i : Nat) (v4 : Value), i + d = n → bok w i → (bok w n → ∃ v : Value, mx_D (2, mm_X8_append, 25, [.ref 1, .int (iI w), .int (iI n), .int (iI i), v4], []) h = mx_D (2, mm_X8_append, 63, [.ref 1, .int (iI w), .int (iI n), .int (iI ((n : Int) - 1)), v], []) h) ∧ (¬ bok w n → mx_D (2, mm_X8_append, 25, [.ref 1, .int (iI w), .int (iI n), .int (iI i), v4], []) h = some (some (.int (iI 0)), h)) := by
  intro d
  induction d with
  | zero =>
    intro i v4 hi hb
    have : i = n := hi
    subst this
    refine ⟨fun _ => ⟨v4, ?_⟩, fun q => absurd hb q⟩
    rw [e_X8_append_25]
    simp (disch := omega) only [↓reduceIte, ii_lit, ii_add, ii_sub, ii_mul, ii_neg, ii_lt_t, ii_lt_f, ii_le_t, ii_le_f, ii_eq_t, ii_eq_f, ii_in, ii_cl, ii_shr, ii_shl, ii_and1, ii_and255, Option.bind_some, Option.toList, List.cons_append, List.nil_append, Int.toNat_natCast, mu_s, mu_c, mu_k, bI_i0, bI_i1, bI_n, nb_0, nb_1, bI_ft, bI_ff, Bool.false_eq_true, reduceCtorEq, Bool.true_eq_false, decide_true, decide_false, eq_self, Int.reduceAdd, Int.reduceSub, Int.reduceMul, Int.reduceNeg, Int.reduceToNat, tn30, tn31, tn32, tn20, tn21]
  | succ d ih =>
    intro i v4 hi hb
    have b0 := byt_b w i
    by_cases hc : 32 ≤ byt w i ∧ byt w i ≤ 126
    · have hb' : bok w (i + 1) := fun j hj => by
        by_cases e : j = i
        · rw [e]; exact hc
        · exact hb j (by omega)
      have := ih (i + 1) (.int (iI (byt w i))) (by omega) hb'
      have e : ∀ v4, mx_D (2, mm_X8_append, 25, [.ref 1, .int (iI w), .int (iI n), .int (iI i), v4], []) h = mx_D (2, mm_X8_append, 25, [.ref 1, .int (iI w), .int (iI n), .int (iI ((i + 1 : Nat) : Int)), .int (iI (byt w i))], []) h := by
        intro v4
        rw [e_X8_append_25]
        simp (disch := omega) only [↓reduceIte, ii_lit, ii_add, ii_sub, ii_mul, ii_neg, ii_lt_t, ii_lt_f, ii_le_t, ii_le_f, ii_eq_t, ii_eq_f, ii_in, ii_cl, ii_shr, ii_shl, ii_and1, ii_and255, Option.bind_some, Option.toList, List.cons_append, List.nil_append, Int.toNat_natCast, mu_s, mu_c, mu_k, bI_i0, bI_i1, bI_n, nb_0, nb_1, bI_ft, bI_ff, Bool.false_eq_true, reduceCtorEq, Bool.true_eq_false, decide_true, decide_false, eq_self, Int.reduceAdd, Int.reduceSub, Int.reduceMul, Int.reduceNeg, Int.reduceToNat, tn30, tn31, tn32, tn20, tn21, X8_byteOf_c, e_X8_append_35]
        rfl
      rw [e]
      exact this
    · refine ⟨fun q => absurd (q i (by omega)) hc, fun _ => ?_⟩
      rw [e_X8_append_25]
      by_cases h1 : byt w i < 32
      · simp (disch := omega) only [↓reduceIte, ii_lit, ii_add, ii_sub, ii_mul, ii_neg, ii_lt_t, ii_lt_f, ii_le_t, ii_le_f, ii_eq_t, ii_eq_f, ii_in, ii_cl, ii_shr, ii_shl, ii_and1, ii_and255, Option.bind_some, Option.toList, List.cons_append, List.nil_append, Int.toNat_natCast, mu_s, mu_c, mu_k, bI_i0, bI_i1, bI_n, nb_0, nb_1, bI_ft, bI_ff, Bool.false_eq_true, reduceCtorEq, Bool.true_eq_false, decide_true, decide_false, eq_self, Int.reduceAdd, Int.reduceSub, Int.reduceMul, Int.reduceNeg, Int.reduceToNat, tn30, tn31, tn32, tn20, tn21, X8_byteOf_c, e_X8_append_35, e_X8_append_51]
      · simp (disch := omega) only [↓reduceIte, ii_lit, ii_add, ii_sub, ii_mul, ii_neg, ii_lt_t, ii_lt_f, ii_le_t, ii_le_f, ii_eq_t, ii_eq_f, ii_in, ii_cl, ii_shr, ii_shl, ii_and1, ii_and255, Option.bind_some, Option.toList, List.cons_append, List.nil_append, Int.toNat_natCast, mu_s, mu_c, mu_k, bI_i0, bI_i1, bI_n, nb_0, nb_1, bI_ft, bI_ff, Bool.false_eq_true, reduceCtorEq, Bool.true_eq_false, decide_true, decide_false, eq_self, Int.reduceAdd, Int.reduceSub, Int.reduceMul, Int.reduceNeg, Int.reduceToNat, tn30, tn31, tn32, tn20, tn21, X8_byteOf_c, e_X8_append_35, e_X8_append_51]
theorem X8_append_63 {w : Int} {n len : Nat} {f : Nat → Nat → Int32} {g : (Nat → Nat → Int64) × (Nat → Nat → Option Nat)} (hr : i32 w) (hn : n ≤ 4) (hl : len + n ≤ 120) (v4 : Value) : ∀ (d k : Nat), k + d = n → mx_D (2, mm_X8_append, 63, [.ref 1, .int (iI w), .int (iI n), .int (iI ((n : Int) - 1 - k)), v4], []) (tyU f 1 2 len w n k, g) = some (some (.int (iI 1)), (tyU f 1 2 len w n n, g)) := by
  intro d
  induction d with
  | zero =>
    intro k hk
    have : k = n := hk
    subst this
    rw [e_X8_append_63]
    simp (disch := omega) only [↓reduceIte, ii_lit, ii_add, ii_sub, ii_mul, ii_neg, ii_lt_t, ii_lt_f, ii_le_t, ii_le_f, ii_eq_t, ii_eq_f, ii_in, ii_cl, ii_shr, ii_shl, ii_and1, ii_and255, Option.bind_some, Option.toList, List.cons_append, List.nil_append, Int.toNat_natCast, mu_s, mu_c, mu_k, bI_i0, bI_i1, bI_n, nb_0, nb_1, bI_ft, bI_ff, Bool.false_eq_true, reduceCtorEq, Bool.true_eq_false, decide_true, decide_false, eq_self, Int.reduceAdd, Int.reduceSub, Int.reduceMul, Int.reduceNeg, Int.reduceToNat, tn30, tn31, tn32, tn20, tn21]
  | succ d ih =>
    intro k hk
    have b0 := byt_b w (n - 1 - k)
    have e1 : ((n : Int) - 1 - k) = ((n - 1 - k : Nat) : Int) := by omega
    have e2 : tyU f 1 2 len w n k 1 1 = iI ((len + k : Nat) : Int) := if_pos ⟨rfl, rfl⟩
    rw [e_X8_append_63, e1]
    simp (disch := omega) only [↓reduceIte, ii_lit, ii_add, ii_sub, ii_mul, ii_neg, ii_lt_t, ii_lt_f, ii_le_t, ii_le_f, ii_eq_t, ii_eq_f, ii_in, ii_cl, ii_shr, ii_shl, ii_and1, ii_and255, Option.bind_some, Option.toList, List.cons_append, List.nil_append, Int.toNat_natCast, mu_s, mu_c, mu_k, bI_i0, bI_i1, bI_n, nb_0, nb_1, bI_ft, bI_ff, Bool.false_eq_true, reduceCtorEq, Bool.true_eq_false, decide_true, decide_false, eq_self, Int.reduceAdd, Int.reduceSub, Int.reduceMul, Int.reduceNeg, Int.reduceToNat, tn30, tn31, tn32, tn20, tn21, X8_byteOf_c, e_X8_append_80, e2, ii_char]
    rw [tyU_s (by decide), show ((n - 1 - k : Nat) : Int) + -1 = (n : Int) - 1 - ((k + 1 : Nat) : Int) by omega]
    exact ih (k + 1) (by omega)
theorem X8_append_c {w n : Int} {len : Nat} {h : mx_H} (hr : i32 w) (hn : i32 n) (hl : h.1 1 1 = iI len) (hlen : len ≤ 120) : ((1 ≤ n ∧ n ≤ 4 ∧ len + n ≤ 120 ∧ bok w n.toNat) → mx_C mm_X8_append [.ref 1, .int (iI w), .int (iI n)] h = some (some (.int (iI 1)), (tyU h.1 1 2 len w n.toNat n.toNat, h.2))) ∧ (¬ (1 ≤ n ∧ n ≤ 4 ∧ len + n ≤ 120 ∧ bok w n.toNat) → mx_C mm_X8_append [.ref 1, .int (iI w), .int (iI n)] h = some (some (.int (iI 0)), h)) := by
  rw [c_X8_append, e_X8_append_0]
  by_cases h1 : n < 1
  · refine ⟨fun q => by omega, fun _ => ?_⟩
    simp (disch := omega) only [↓reduceIte, ii_lit, ii_add, ii_sub, ii_mul, ii_neg, ii_lt_t, ii_lt_f, ii_le_t, ii_le_f, ii_eq_t, ii_eq_f, ii_in, ii_cl, ii_shr, ii_shl, ii_and1, ii_and255, Option.bind_some, Option.toList, List.cons_append, List.nil_append, Int.toNat_natCast, mu_s, mu_c, mu_k, bI_i0, bI_i1, bI_n, nb_0, nb_1, bI_ft, bI_ff, Bool.false_eq_true, reduceCtorEq, Bool.true_eq_false, decide_true, decide_false, eq_self, Int.reduceAdd, Int.reduceSub, Int.reduceMul, Int.reduceNeg, Int.reduceToNat, tn30, tn31, tn32, tn20, tn21, e_X8_append_21]
  by_cases h2 : 4 < n
  · refine ⟨fun q => by omega, fun _ => ?_⟩
    simp (disch := omega) only [↓reduceIte, ii_lit, ii_add, ii_sub, ii_mul, ii_neg, ii_lt_t, ii_lt_f, ii_le_t, ii_le_f, ii_eq_t, ii_eq_f, ii_in, ii_cl, ii_shr, ii_shl, ii_and1, ii_and255, Option.bind_some, Option.toList, List.cons_append, List.nil_append, Int.toNat_natCast, mu_s, mu_c, mu_k, bI_i0, bI_i1, bI_n, nb_0, nb_1, bI_ft, bI_ff, Bool.false_eq_true, reduceCtorEq, Bool.true_eq_false, decide_true, decide_false, eq_self, Int.reduceAdd, Int.reduceSub, Int.reduceMul, Int.reduceNeg, Int.reduceToNat, tn30, tn31, tn32, tn20, tn21, e_X8_append_21]
  by_cases h3 : 120 < len + n
  · refine ⟨fun q => by omega, fun _ => ?_⟩
    simp (disch := omega) only [↓reduceIte, ii_lit, ii_add, ii_sub, ii_mul, ii_neg, ii_lt_t, ii_lt_f, ii_le_t, ii_le_f, ii_eq_t, ii_eq_f, ii_in, ii_cl, ii_shr, ii_shl, ii_and1, ii_and255, Option.bind_some, Option.toList, List.cons_append, List.nil_append, Int.toNat_natCast, mu_s, mu_c, mu_k, bI_i0, bI_i1, bI_n, nb_0, nb_1, bI_ft, bI_ff, Bool.false_eq_true, reduceCtorEq, Bool.true_eq_false, decide_true, decide_false, eq_self, Int.reduceAdd, Int.reduceSub, Int.reduceMul, Int.reduceNeg, Int.reduceToNat, tn30, tn31, tn32, tn20, tn21, e_X8_append_21, hl]
  simp (disch := omega) only [↓reduceIte, ii_lit, ii_add, ii_sub, ii_mul, ii_neg, ii_lt_t, ii_lt_f, ii_le_t, ii_le_f, ii_eq_t, ii_eq_f, ii_in, ii_cl, ii_shr, ii_shl, ii_and1, ii_and255, Option.bind_some, Option.toList, List.cons_append, List.nil_append, Int.toNat_natCast, mu_s, mu_c, mu_k, bI_i0, bI_i1, bI_n, nb_0, nb_1, bI_ft, bI_ff, Bool.false_eq_true, reduceCtorEq, Bool.true_eq_false, decide_true, decide_false, eq_self, Int.reduceAdd, Int.reduceSub, Int.reduceMul, Int.reduceNeg, Int.reduceToNat, tn30, tn31, tn32, tn20, tn21, e_X8_append_21, hl]
  obtain ⟨m, rfl⟩ : ∃ m : Nat, n = m := ⟨n.toNat, by omega⟩
  have A := X8_append_25 (w := w) (n := m) (h := h) hr (by omega) m 0 mx_junk (by omega) (fun i hi => by omega)
  refine ⟨fun q => ?_, fun q => A.2 (fun hb => q ⟨by omega, by omega, by omega, hb⟩)⟩
  obtain ⟨v, e⟩ := A.1 q.2.2.2
  refine e.trans ?_
  have B := X8_append_63 (f := h.1) (g := h.2) hr (n := m) (len := len) (by omega) (by omega) v m 0 (by omega)
  rw [tyU_0 hl] at B
  rw [show (m : Int) - 1 - ((0 : Nat) : Int) = (m : Int) - 1 by omega] at B
  exact B
theorem X10_type_c {w n : Int} {len : Nat} {h : mx_H} (hr : i32 w) (hn : i32 n) (hl : h.1 1 1 = iI len) (hlen : len ≤ 120) : ((1 ≤ n ∧ n ≤ 4 ∧ len + n ≤ 120 ∧ bok w n.toNat) → mx_C mm_X10_type [.ref 0, .int (iI w), .int (iI n)] h = some (some (.int (iI 1)), (tyU h.1 1 2 len w n.toNat n.toNat, h.2))) ∧ (¬ (1 ≤ n ∧ n ≤ 4 ∧ len + n ≤ 120 ∧ bok w n.toNat) → mx_C mm_X10_type [.ref 0, .int (iI w), .int (iI n)] h = some (some (.int (iI 0)), h)) := by
  have A := X8_append_c hr hn hl hlen
  refine ⟨fun q => ?_, fun q => ?_⟩
  · rw [c_X10_type, e_X10_type_0, A.1 q]
    simp (disch := omega) only [↓reduceIte, ii_lit, ii_add, ii_sub, ii_mul, ii_neg, ii_lt_t, ii_lt_f, ii_le_t, ii_le_f, ii_eq_t, ii_eq_f, ii_in, ii_cl, ii_shr, ii_shl, ii_and1, ii_and255, Option.bind_some, Option.toList, List.cons_append, List.nil_append, Int.toNat_natCast, mu_s, mu_c, mu_k, bI_i0, bI_i1, bI_n, nb_0, nb_1, bI_ft, bI_ff, Bool.false_eq_true, reduceCtorEq, Bool.true_eq_false, decide_true, decide_false, eq_self, Int.reduceAdd, Int.reduceSub, Int.reduceMul, Int.reduceNeg, Int.reduceToNat, tn30, tn31, tn32, tn20, tn21, e_X10_type_9]
  · rw [c_X10_type, e_X10_type_0, A.2 q]
    simp (disch := omega) only [↓reduceIte, ii_lit, ii_add, ii_sub, ii_mul, ii_neg, ii_lt_t, ii_lt_f, ii_le_t, ii_le_f, ii_eq_t, ii_eq_f, ii_in, ii_cl, ii_shr, ii_shl, ii_and1, ii_and255, Option.bind_some, Option.toList, List.cons_append, List.nil_append, Int.toNat_natCast, mu_s, mu_c, mu_k, bI_i0, bI_i1, bI_n, nb_0, nb_1, bI_ft, bI_ff, Bool.false_eq_true, reduceCtorEq, Bool.true_eq_false, decide_true, decide_false, eq_self, Int.reduceAdd, Int.reduceSub, Int.reduceMul, Int.reduceNeg, Int.reduceToNat, tn30, tn31, tn32, tn20, tn21, e_X10_type_9]
/-! the reference's -/
theorem X11_type_29 {w : Int} {n : Nat} {h : mx_H} (hr : i32 w) (hn : n ≤ 4) : ∀ (d i : Nat), i + d = n → bok w i → ((bok w n → mx_D (2, mm_X11_type, 29, [.ref 47, .int (iI w), .int (iI n), .int (iI 1), .int (iI i)], []) h = mx_D (2, mm_X11_type, 69, [.ref 47, .int (iI w), .int (iI n), .int (iI 1), .int (iI ((n : Int) - 1))], []) h) ∧ (¬ bok w n → mx_D (2, mm_X11_type, 29, [.ref 47, .int (iI w), .int (iI n), .int (iI 1), .int (iI i)], []) h = some (some (.int (iI 0)), h))) := by
  intro d
  induction d with
  | zero =>
    intro i hi hb
    have : i = n := hi
    subst this
    refine ⟨fun _ => ?_, fun q => absurd hb q⟩
    rw [e_X11_type_29]
    simp (disch := omega) only [↓reduceIte, ii_lit, ii_add, ii_sub, ii_mul, ii_neg, ii_lt_t, ii_lt_f, ii_le_t, ii_le_f, ii_eq_t, ii_eq_f, ii_in, ii_cl, ii_shr, ii_shl, ii_and1, ii_and255, Option.bind_some, Option.toList, List.cons_append, List.nil_append, Int.toNat_natCast, mu_s, mu_c, mu_k, bI_i0, bI_i1, bI_n, nb_0, nb_1, bI_ft, bI_ff, Bool.false_eq_true, reduceCtorEq, Bool.true_eq_false, decide_true, decide_false, eq_self, Int.reduceAdd, Int.reduceSub, Int.reduceMul, Int.reduceNeg, Int.reduceToNat, tn30, tn31, tn32, tn20, tn21, e_X11_type_64]
  | succ d ih =>
    intro i hi hb
    have b0 := byt_b w i
    by_cases hc : 32 ≤ byt w i ∧ byt w i ≤ 126
    · have hb' : bok w (i + 1) := fun j hj => by
        by_cases e : j = i
        · rw [e]; exact hc
        · exact hb j (by omega)
      have := ih (i + 1) (by omega) hb'
      have e : mx_D (2, mm_X11_type, 29, [.ref 47, .int (iI w), .int (iI n), .int (iI 1), .int (iI i)], []) h = mx_D (2, mm_X11_type, 29, [.ref 47, .int (iI w), .int (iI n), .int (iI 1), .int (iI ((i + 1 : Nat) : Int))], []) h := by
        rw [e_X11_type_29]
        simp (disch := omega) only [ii_lit, ii_mul, byt_e]
        simp (disch := omega) only [↓reduceIte, ii_lit, ii_add, ii_sub, ii_mul, ii_neg, ii_lt_t, ii_lt_f, ii_le_t, ii_le_f, ii_eq_t, ii_eq_f, ii_in, ii_cl, ii_shr, ii_shl, ii_and1, ii_and255, Option.bind_some, Option.toList, List.cons_append, List.nil_append, Int.toNat_natCast, mu_s, mu_c, mu_k, bI_i0, bI_i1, bI_n, nb_0, nb_1, bI_ft, bI_ff, Bool.false_eq_true, reduceCtorEq, Bool.true_eq_false, decide_true, decide_false, eq_self, Int.reduceAdd, Int.reduceSub, Int.reduceMul, Int.reduceNeg, Int.reduceToNat, tn30, tn31, tn32, tn20, tn21, X11_in_c, e_X11_type_57, hc, and_self]
        rfl
      rw [e]
      exact this
    · refine ⟨fun q => absurd (q i (by omega)) hc, fun _ => ?_⟩
      rw [e_X11_type_29]
      simp (disch := omega) only [ii_lit, ii_mul, byt_e]
      simp (disch := omega) only [↓reduceIte, ii_lit, ii_add, ii_sub, ii_mul, ii_neg, ii_lt_t, ii_lt_f, ii_le_t, ii_le_f, ii_eq_t, ii_eq_f, ii_in, ii_cl, ii_shr, ii_shl, ii_and1, ii_and255, Option.bind_some, Option.toList, List.cons_append, List.nil_append, Int.toNat_natCast, mu_s, mu_c, mu_k, bI_i0, bI_i1, bI_n, nb_0, nb_1, bI_ft, bI_ff, Bool.false_eq_true, reduceCtorEq, Bool.true_eq_false, decide_true, decide_false, eq_self, Int.reduceAdd, Int.reduceSub, Int.reduceMul, Int.reduceNeg, Int.reduceToNat, tn30, tn31, tn32, tn20, tn21, X11_in_c, e_X11_type_57, hc]
      rw [e_X11_type_29]
      by_cases q1 : n ≤ i + 1
      · simp (disch := omega) only [↓reduceIte, ii_lit, ii_add, ii_sub, ii_mul, ii_neg, ii_lt_t, ii_lt_f, ii_le_t, ii_le_f, ii_eq_t, ii_eq_f, ii_in, ii_cl, ii_shr, ii_shl, ii_and1, ii_and255, Option.bind_some, Option.toList, List.cons_append, List.nil_append, Int.toNat_natCast, mu_s, mu_c, mu_k, bI_i0, bI_i1, bI_n, nb_0, nb_1, bI_ft, bI_ff, Bool.false_eq_true, reduceCtorEq, Bool.true_eq_false, decide_true, decide_false, eq_self, Int.reduceAdd, Int.reduceSub, Int.reduceMul, Int.reduceNeg, Int.reduceToNat, tn30, tn31, tn32, tn20, tn21, e_X11_type_64, e_X11_type_69, e_X11_type_114, ite_self]
      · simp (disch := omega) only [↓reduceIte, ii_lit, ii_add, ii_sub, ii_mul, ii_neg, ii_lt_t, ii_lt_f, ii_le_t, ii_le_f, ii_eq_t, ii_eq_f, ii_in, ii_cl, ii_shr, ii_shl, ii_and1, ii_and255, Option.bind_some, Option.toList, List.cons_append, List.nil_append, Int.toNat_natCast, mu_s, mu_c, mu_k, bI_i0, bI_i1, bI_n, nb_0, nb_1, bI_ft, bI_ff, Bool.false_eq_true, reduceCtorEq, Bool.true_eq_false, decide_true, decide_false, eq_self, Int.reduceAdd, Int.reduceSub, Int.reduceMul, Int.reduceNeg, Int.reduceToNat, tn30, tn31, tn32, tn20, tn21, e_X11_type_64, e_X11_type_69, e_X11_type_114, ite_self]
theorem X11_type_69 {w : Int} {n len : Nat} {f : Nat → Nat → Int32} {g : (Nat → Nat → Int64) × (Nat → Nat → Option Nat)} (hr : i32 w) (hn : n ≤ 4) (hl : len + n ≤ 120) : ∀ (d k : Nat), k + d = n → mx_D (2, mm_X11_type, 69, [.ref 47, .int (iI w), .int (iI n), .int (iI 1), .int (iI ((n : Int) - 1 - k))], []) (tyU f 47 48 len w n k, g) = some (some (.int (iI 1)), (tyU f 47 48 len w n n, g)) := by
  intro d
  induction d with
  | zero =>
    intro k hk
    have : k = n := hk
    subst this
    rw [e_X11_type_69]
    simp (disch := omega) only [↓reduceIte, ii_lit, ii_add, ii_sub, ii_mul, ii_neg, ii_lt_t, ii_lt_f, ii_le_t, ii_le_f, ii_eq_t, ii_eq_f, ii_in, ii_cl, ii_shr, ii_shl, ii_and1, ii_and255, Option.bind_some, Option.toList, List.cons_append, List.nil_append, Int.toNat_natCast, mu_s, mu_c, mu_k, bI_i0, bI_i1, bI_n, nb_0, nb_1, bI_ft, bI_ff, Bool.false_eq_true, reduceCtorEq, Bool.true_eq_false, decide_true, decide_false, eq_self, Int.reduceAdd, Int.reduceSub, Int.reduceMul, Int.reduceNeg, Int.reduceToNat, tn30, tn31, tn32, tn20, tn21, e_X11_type_114]
  | succ d ih =>
    intro k hk
    have b0 := byt_b w (n - 1 - k)
    have e1 : ((n : Int) - 1 - k) = ((n - 1 - k : Nat) : Int) := by omega
    have e2 : tyU f 47 48 len w n k 47 1 = iI ((len + k : Nat) : Int) := if_pos ⟨rfl, rfl⟩
    rw [e_X11_type_69, e1]
    simp (disch := omega) only [ii_lit, ii_mul, byt_e]
    simp (disch := omega) only [↓reduceIte, ii_lit, ii_add, ii_sub, ii_mul, ii_neg, ii_lt_t, ii_lt_f, ii_le_t, ii_le_f, ii_eq_t, ii_eq_f, ii_in, ii_cl, ii_shr, ii_shl, ii_and1, ii_and255, Option.bind_some, Option.toList, List.cons_append, List.nil_append, Int.toNat_natCast, mu_s, mu_c, mu_k, bI_i0, bI_i1, bI_n, nb_0, nb_1, bI_ft, bI_ff, Bool.false_eq_true, reduceCtorEq, Bool.true_eq_false, decide_true, decide_false, eq_self, Int.reduceAdd, Int.reduceSub, Int.reduceMul, Int.reduceNeg, Int.reduceToNat, tn30, tn31, tn32, tn20, tn21, e2]
    rw [tyU_s (by decide), show ((n - 1 - k : Nat) : Int) + -1 = (n : Int) - 1 - ((k + 1 : Nat) : Int) by omega]
    exact ih (k + 1) (by omega)
theorem X11_type_c {w n : Int} {len : Nat} {h : mx_H} (hr : i32 w) (hn : i32 n) (hl : h.1 47 1 = iI len) (hlen : len ≤ 120) : ((1 ≤ n ∧ n ≤ 4 ∧ len + n ≤ 120 ∧ bok w n.toNat) → mx_C mm_X11_type [.ref 47, .int (iI w), .int (iI n)] h = some (some (.int (iI 1)), (tyU h.1 47 48 len w n.toNat n.toNat, h.2))) ∧ (¬ (1 ≤ n ∧ n ≤ 4 ∧ len + n ≤ 120 ∧ bok w n.toNat) → mx_C mm_X11_type [.ref 47, .int (iI w), .int (iI n)] h = some (some (.int (iI 0)), h)) := by
  have bad : mx_D (2, mm_X11_type, 29, [.ref 47, .int (iI w), .int (iI n), .int (iI 0), .int (iI 0)], []) h = some (some (.int (iI 0)), h) := by
    rw [e_X11_type_29]
    simp (disch := omega) only [↓reduceIte, ii_lit, ii_add, ii_sub, ii_mul, ii_neg, ii_lt_t, ii_lt_f, ii_le_t, ii_le_f, ii_eq_t, ii_eq_f, ii_in, ii_cl, ii_shr, ii_shl, ii_and1, ii_and255, Option.bind_some, Option.toList, List.cons_append, List.nil_append, Int.toNat_natCast, mu_s, mu_c, mu_k, bI_i0, bI_i1, bI_n, nb_0, nb_1, bI_ft, bI_ff, Bool.false_eq_true, reduceCtorEq, Bool.true_eq_false, decide_true, decide_false, eq_self, Int.reduceAdd, Int.reduceSub, Int.reduceMul, Int.reduceNeg, Int.reduceToNat, tn30, tn31, tn32, tn20, tn21, e_X11_type_64, e_X11_type_69, e_X11_type_114, ite_self]
  by_cases h1 : 1 ≤ n ∧ n ≤ 4 ∧ len + n ≤ 120
  · have e0 : mx_C mm_X11_type [.ref 47, .int (iI w), .int (iI n)] h = mx_D (2, mm_X11_type, 29, [.ref 47, .int (iI w), .int (iI n), .int (iI 1), .int (iI 0)], []) h := by
      rw [c_X11_type, e_X11_type_0]
      simp (disch := omega) only [↓reduceIte, ii_lit, ii_add, ii_sub, ii_mul, ii_neg, ii_lt_t, ii_lt_f, ii_le_t, ii_le_f, ii_eq_t, ii_eq_f, ii_in, ii_cl, ii_shr, ii_shl, ii_and1, ii_and255, Option.bind_some, Option.toList, List.cons_append, List.nil_append, Int.toNat_natCast, mu_s, mu_c, mu_k, bI_i0, bI_i1, bI_n, nb_0, nb_1, bI_ft, bI_ff, Bool.false_eq_true, reduceCtorEq, Bool.true_eq_false, decide_true, decide_false, eq_self, Int.reduceAdd, Int.reduceSub, Int.reduceMul, Int.reduceNeg, Int.reduceToNat, tn30, tn31, tn32, tn20, tn21, X11_in_c, h1, e_X11_type_6, e_X11_type_25, and_self, hl]
    rw [e0]
    obtain ⟨m, rfl⟩ : ∃ m : Nat, n = m := ⟨n.toNat, by omega⟩
    have A := X11_type_29 (w := w) (n := m) (h := h) hr (by omega) m 0 (by omega) (fun i hi => by omega)
    refine ⟨fun q => ?_, fun q => A.2 (fun hb => q ⟨by omega, by omega, by omega, hb⟩)⟩
    refine (A.1 q.2.2.2).trans ?_
    have B := X11_type_69 (f := h.1) (g := h.2) hr (n := m) (len := len) (by omega) (by omega) m 0 (by omega)
    rw [tyU_0 hl] at B
    rw [show (m : Int) - 1 - ((0 : Nat) : Int) = (m : Int) - 1 by omega] at B
    exact B
  · refine ⟨fun q => by omega, fun _ => ?_⟩
    rw [c_X11_type, e_X11_type_0]
    by_cases h2 : 1 ≤ n ∧ n ≤ 4
    · simp (disch := omega) only [↓reduceIte, ii_lit, ii_add, ii_sub, ii_mul, ii_neg, ii_lt_t, ii_lt_f, ii_le_t, ii_le_f, ii_eq_t, ii_eq_f, ii_in, ii_cl, ii_shr, ii_shl, ii_and1, ii_and255, Option.bind_some, Option.toList, List.cons_append, List.nil_append, Int.toNat_natCast, mu_s, mu_c, mu_k, bI_i0, bI_i1, bI_n, nb_0, nb_1, bI_ft, bI_ff, Bool.false_eq_true, reduceCtorEq, Bool.true_eq_false, decide_true, decide_false, eq_self, Int.reduceAdd, Int.reduceSub, Int.reduceMul, Int.reduceNeg, Int.reduceToNat, tn30, tn31, tn32, tn20, tn21, X11_in_c, h2, e_X11_type_6, e_X11_type_24, e_X11_type_25, and_self, hl, bad]
    · simp (disch := omega) only [↓reduceIte, ii_lit, ii_add, ii_sub, ii_mul, ii_neg, ii_lt_t, ii_lt_f, ii_le_t, ii_le_f, ii_eq_t, ii_eq_f, ii_in, ii_cl, ii_shr, ii_shl, ii_and1, ii_and255, Option.bind_some, Option.toList, List.cons_append, List.nil_append, Int.toNat_natCast, mu_s, mu_c, mu_k, bI_i0, bI_i1, bI_n, nb_0, nb_1, bI_ft, bI_ff, Bool.false_eq_true, reduceCtorEq, Bool.true_eq_false, decide_true, decide_false, eq_self, Int.reduceAdd, Int.reduceSub, Int.reduceMul, Int.reduceNeg, Int.reduceToNat, tn30, tn31, tn32, tn20, tn21, X11_in_c, h2, e_X11_type_6, e_X11_type_24, e_X11_type_25, hl, bad]
