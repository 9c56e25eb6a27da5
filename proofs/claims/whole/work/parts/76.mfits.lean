/-! the reference's fits and build -/
section FB
variable {c : Nat → Int} {len n : Nat} {ts : Nat → Tm} {h : mx_H}
theorem X11_fits_c {f : Fr} {d : Nat} {own fst snd : Int} (F : FrC c len f d h) (T : TermM n ts h.1) (hd : d ≤ 8) (hk : fk f ≤ 34) (hi : (fps f).length < 3) (hp : 0 ≤ fp f ∧ fp f ≤ 99) (ho : 0 ≤ own ∧ own ≤ 8) (hn : ∀ t, t ∈ fps f → t < n) (h0 : 0 < (fps f).length → fst = tS (ts ((fps f).getD 0 0))) (h1 : 1 < (fps f).length → snd = tS (ts ((fps f).getD 1 0))) : mx_C mm_X11_fits [.ref 47, .int (iI ((d : Int))), .int (iI (((fps f).length : Int))), .int (iI (own))] h = some (some (.int (bI (fitB (fk f) (fps f).length own fst snd (fp f)))), h) := by
  obtain ⟨f1, f2, f3, f4, f5, f6, f7, f8, f9⟩ := F
  have dn : (iI (d : Int)).toNatClampNeg = d := by rw [ii_cl (by omega)]; exact Int.toNat_natCast _
  have din := in_t (a := (d : Int)) (n := 12) (by omega)
  have i14 : mx_C mm_X11_in [.int (iI own), .int 1, .int 4] h = _ := X11_in_c (b := 1) (c := 4) h ⟨by omega, by decide, by decide⟩
  have T2 := T.2.1
  have sl : ∀ x, x < (fps f).length → h.1 50 ((fps f).getD x 0) = iI (tS (ts ((fps f).getD x 0))) ∧ (0 ≤ tS (ts ((fps f).getD x 0)) ∧ tS (ts ((fps f).getD x 0)) ≤ 8) ∧ (fps f).getD x 0 < n := by
    intro x hx
    have lt := hn _ (gd_mem hx)
    have := T.2.2 _ lt
    exact ⟨this.1.2.1, this.2.2.1, lt⟩
  generalize hi' : (fps f).length = i at *
  generalize fk f = k at *
  generalize fp f = p at *
  -- the first part's sort
  have st : ∃ v6 : Int, mx_C mm_X11_fits [.ref 47, .int (iI ((d : Int))), .int (iI ((i : Int))), .int (iI (own))] h = mx_D (2, mm_X11_fits, 37, [.ref 47, .int (iI ((d : Int))), .int (iI ((i : Int))), .int (iI (own)), .int (iI (k)), .int (bI (decide (1 ≤ own ∧ own ≤ 4))), mx_junk], [.int (iI (v6))]) h ∧ (0 < i → v6 = fst) ∧ -1 ≤ v6 ∧ v6 ≤ 8 := by
    rw [c_X11_fits, e_X11_fits_0, if_pos din, dn, f1, i14]
    by_cases z : i = 0
    · refine ⟨-1, ?_, by omega, by omega, by omega⟩
      refine Eq.trans (e_X11_fits_14 ..) ?_
      rw [if_pos (show iI (i : Int) ≤ 0 from (ii_le (b := 0) (by omega)).mpr (by omega))]
      rfl
    · have g := f4 0 (by omega)
      rw [Nat.add_zero] at g
      obtain ⟨g2, g3, g4⟩ := sl 0 (by omega)
      have e3 : (iI (3 * (d : Int))).toNatClampNeg = 3 * d := by rw [ii_cl (by omega)]; omega
      refine ⟨tS (ts ((fps f).getD 0 0)), ?_, fun y => (h0 y).symm, by omega, by omega⟩
      refine Eq.trans (e_X11_fits_14 ..) ?_
      rw [if_neg (show ¬ iI (i : Int) ≤ 0 from fun y => by have := (ii_le (b := 0) (by omega)).mp y; omega), show (3 : Int32) = iI 3 from rfl, ii_mul, if_pos (in_t (n := 36) (by omega)), e3, g, if_pos (in_t (n := 130) (by omega)), ii_cl (by omega), Int.toNat_natCast, g2]
  obtain ⟨v6, st, v60, v6b⟩ := st
  rw [st, e_X11_fits_37, show mx_C mm_X11_in [.int (iI k), .int 4, .int 8] h = _ from X11_in_c (b := 4) (c := 8) h ⟨by omega, by decide, by decide⟩]
  have st47 : ((some (some (.int (bI (decide (4 ≤ k ∧ k ≤ 8)))), h) : Option mx_O).bind fun o => mx_D (2, mm_X11_fits, 47, [.ref 47, .int (iI ((d : Int))), .int (iI ((i : Int))), .int (iI (own)), .int (iI (k)), .int (bI (decide (1 ≤ own ∧ own ≤ 4))), .int (iI (v6))], o.1.toList ++ []) o.2) = _ := e_X11_fits_47 (s0 := bI (decide (4 ≤ k ∧ k ≤ 8))) ..
  rw [st47]
  have i1228 : mx_C mm_X11_in [.int (iI k), .int (iI 12), .int (iI 28)] h = _ := X11_in_c (b := 12) (c := 28) h ⟨by omega, by decide, by decide⟩
  rcases k_cases (k := k) (by omega) with g | g | g | g | g | g | g | g | g | g
  · rw [decide_eq_true g, if_neg (show ¬ bI true = 0 by decide)]
    by_cases q : own = 0
    · rw [← fb1 ((fp_a g).mpr q)]
      simp (disch := omega) only [↓reduceIte, ii_lit, ii_add, ii_sub, ii_mul, ii_neg, ii_lt_t, ii_lt_f, ii_le_t, ii_le_f, ii_eq_t, ii_eq_f, ii_in, ii_cl, ii_shr, ii_shl, ii_and1, ii_and255, Option.bind_some, Option.toList, List.cons_append, List.nil_append, Int.toNat_natCast, mu_s, mu_c, mu_k, bI_i0, bI_i1, bI_n, nb_0, nb_1, bI_ft, bI_ff, Bool.false_eq_true, reduceCtorEq, Bool.true_eq_false, decide_true, decide_false, eq_self, Int.reduceAdd, Int.reduceSub, Int.reduceMul, Int.reduceNeg, Int.reduceToNat, tn30, tn31, tn32, tn20, tn21, e_X11_fits_59]
    · rw [← fb0 (fun z => q ((fp_a g).mp z))]
      simp (disch := omega) only [↓reduceIte, ii_lit, ii_add, ii_sub, ii_mul, ii_neg, ii_lt_t, ii_lt_f, ii_le_t, ii_le_f, ii_eq_t, ii_eq_f, ii_in, ii_cl, ii_shr, ii_shl, ii_and1, ii_and255, Option.bind_some, Option.toList, List.cons_append, List.nil_append, Int.toNat_natCast, mu_s, mu_c, mu_k, bI_i0, bI_i1, bI_n, nb_0, nb_1, bI_ft, bI_ff, Bool.false_eq_true, reduceCtorEq, Bool.true_eq_false, decide_true, decide_false, eq_self, Int.reduceAdd, Int.reduceSub, Int.reduceMul, Int.reduceNeg, Int.reduceToNat, tn30, tn31, tn32, tn20, tn21, e_X11_fits_59]
  · have d48 : decide (4 ≤ k ∧ k ≤ 8) = false := decide_eq_false (by omega)
    have go : mx_D (2, mm_X11_fits, 74, [.ref 47, .int (iI ((d : Int))), .int (iI ((i : Int))), .int (iI (own)), .int (iI (k)), .int (bI (decide (1 ≤ own ∧ own ≤ 4))), .int (iI (v6))], []) h = some (some (.int (bI (fitB k i own fst snd p))), h) := by
      rw [e_X11_fits_74]
      by_cases z : i = 0
      · rw [← fb1 ((fp_b g).mpr (Or.inl z))]
        simp (disch := omega) only [↓reduceIte, ii_lit, ii_add, ii_sub, ii_mul, ii_neg, ii_lt_t, ii_lt_f, ii_le_t, ii_le_f, ii_eq_t, ii_eq_f, ii_in, ii_cl, ii_shr, ii_shl, ii_and1, ii_and255, Option.bind_some, Option.toList, List.cons_append, List.nil_append, Int.toNat_natCast, mu_s, mu_c, mu_k, bI_i0, bI_i1, bI_n, nb_0, nb_1, bI_ft, bI_ff, Bool.false_eq_true, reduceCtorEq, Bool.true_eq_false, decide_true, decide_false, eq_self, Int.reduceAdd, Int.reduceSub, Int.reduceMul, Int.reduceNeg, Int.reduceToNat, tn30, tn31, tn32, tn20, tn21, e_X11_fits_84, e_X11_fits_89]
      · have v6e := v60 (by omega)
        by_cases q : own = v6
        · rw [← fb1 ((fp_b g).mpr (by omega))]
          simp (disch := omega) only [↓reduceIte, ii_lit, ii_add, ii_sub, ii_mul, ii_neg, ii_lt_t, ii_lt_f, ii_le_t, ii_le_f, ii_eq_t, ii_eq_f, ii_in, ii_cl, ii_shr, ii_shl, ii_and1, ii_and255, Option.bind_some, Option.toList, List.cons_append, List.nil_append, Int.toNat_natCast, mu_s, mu_c, mu_k, bI_i0, bI_i1, bI_n, nb_0, nb_1, bI_ft, bI_ff, Bool.false_eq_true, reduceCtorEq, Bool.true_eq_false, decide_true, decide_false, eq_self, Int.reduceAdd, Int.reduceSub, Int.reduceMul, Int.reduceNeg, Int.reduceToNat, tn30, tn31, tn32, tn20, tn21, e_X11_fits_84, e_X11_fits_89]
        · rw [← fb0 (fun y => by have := (fp_b g).mp y; omega)]
          simp (disch := omega) only [↓reduceIte, ii_lit, ii_add, ii_sub, ii_mul, ii_neg, ii_lt_t, ii_lt_f, ii_le_t, ii_le_f, ii_eq_t, ii_eq_f, ii_in, ii_cl, ii_shr, ii_shl, ii_and1, ii_and255, Option.bind_some, Option.toList, List.cons_append, List.nil_append, Int.toNat_natCast, mu_s, mu_c, mu_k, bI_i0, bI_i1, bI_n, nb_0, nb_1, bI_ft, bI_ff, Bool.false_eq_true, reduceCtorEq, Bool.true_eq_false, decide_true, decide_false, eq_self, Int.reduceAdd, Int.reduceSub, Int.reduceMul, Int.reduceNeg, Int.reduceToNat, tn30, tn31, tn32, tn20, tn21, e_X11_fits_84, e_X11_fits_89]
    rcases g with g | g
    · simp (disch := omega) only [↓reduceIte, ii_lit, ii_add, ii_sub, ii_mul, ii_neg, ii_lt_t, ii_lt_f, ii_le_t, ii_le_f, ii_eq_t, ii_eq_f, ii_in, ii_cl, ii_shr, ii_shl, ii_and1, ii_and255, Option.bind_some, Option.toList, List.cons_append, List.nil_append, Int.toNat_natCast, mu_s, mu_c, mu_k, bI_i0, bI_i1, bI_n, nb_0, nb_1, bI_ft, bI_ff, Bool.false_eq_true, reduceCtorEq, Bool.true_eq_false, decide_true, decide_false, eq_self, Int.reduceAdd, Int.reduceSub, Int.reduceMul, Int.reduceNeg, Int.reduceToNat, tn30, tn31, tn32, tn20, tn21, d48, go]
    · simp (disch := omega) only [↓reduceIte, ii_lit, ii_add, ii_sub, ii_mul, ii_neg, ii_lt_t, ii_lt_f, ii_le_t, ii_le_f, ii_eq_t, ii_eq_f, ii_in, ii_cl, ii_shr, ii_shl, ii_and1, ii_and255, Option.bind_some, Option.toList, List.cons_append, List.nil_append, Int.toNat_natCast, mu_s, mu_c, mu_k, bI_i0, bI_i1, bI_n, nb_0, nb_1, bI_ft, bI_ff, Bool.false_eq_true, reduceCtorEq, Bool.true_eq_false, decide_true, decide_false, eq_self, Int.reduceAdd, Int.reduceSub, Int.reduceMul, Int.reduceNeg, Int.reduceToNat, tn30, tn31, tn32, tn20, tn21, d48, go]
  · have d48 : decide (4 ≤ k ∧ k ≤ 8) = false := decide_eq_false (by omega)
    by_cases z0 : i = 0
    · by_cases q : own = 0
      · rw [← fb1 ((fp_c g).mpr (by rw [if_pos z0]; exact q))]
        simp (disch := omega) only [↓reduceIte, ii_lit, ii_add, ii_sub, ii_mul, ii_neg, ii_lt_t, ii_lt_f, ii_le_t, ii_le_f, ii_eq_t, ii_eq_f, ii_in, ii_cl, ii_shr, ii_shl, ii_and1, ii_and255, Option.bind_some, Option.toList, List.cons_append, List.nil_append, Int.toNat_natCast, mu_s, mu_c, mu_k, bI_i0, bI_i1, bI_n, nb_0, nb_1, bI_ft, bI_ff, Bool.false_eq_true, reduceCtorEq, Bool.true_eq_false, decide_true, decide_false, eq_self, Int.reduceAdd, Int.reduceSub, Int.reduceMul, Int.reduceNeg, Int.reduceToNat, tn30, tn31, tn32, tn20, tn21, d48, e_X11_fits_142]
      · rw [← fb0 (fun z => (by have := (fp_c g).mp z; rw [if_pos z0] at this; exact q this))]
        simp (disch := omega) only [↓reduceIte, ii_lit, ii_add, ii_sub, ii_mul, ii_neg, ii_lt_t, ii_lt_f, ii_le_t, ii_le_f, ii_eq_t, ii_eq_f, ii_in, ii_cl, ii_shr, ii_shl, ii_and1, ii_and255, Option.bind_some, Option.toList, List.cons_append, List.nil_append, Int.toNat_natCast, mu_s, mu_c, mu_k, bI_i0, bI_i1, bI_n, nb_0, nb_1, bI_ft, bI_ff, Bool.false_eq_true, reduceCtorEq, Bool.true_eq_false, decide_true, decide_false, eq_self, Int.reduceAdd, Int.reduceSub, Int.reduceMul, Int.reduceNeg, Int.reduceToNat, tn30, tn31, tn32, tn20, tn21, d48, e_X11_fits_142]
    · by_cases z1 : i = 1
      · rw [← fb1 ((fp_c g).mpr (by rw [if_neg z0]; exact Or.inl z1))]
        simp (disch := omega) only [↓reduceIte, ii_lit, ii_add, ii_sub, ii_mul, ii_neg, ii_lt_t, ii_lt_f, ii_le_t, ii_le_f, ii_eq_t, ii_eq_f, ii_in, ii_cl, ii_shr, ii_shl, ii_and1, ii_and255, Option.bind_some, Option.toList, List.cons_append, List.nil_append, Int.toNat_natCast, mu_s, mu_c, mu_k, bI_i0, bI_i1, bI_n, nb_0, nb_1, bI_ft, bI_ff, Bool.false_eq_true, reduceCtorEq, Bool.true_eq_false, decide_true, decide_false, eq_self, Int.reduceAdd, Int.reduceSub, Int.reduceMul, Int.reduceNeg, Int.reduceToNat, tn30, tn31, tn32, tn20, tn21, d48, e_X11_fits_137, e_X11_fits_142]
      · have g1 := f4 1 (by omega)
        obtain ⟨g2, g3, g4⟩ := sl 1 (by omega)
        have s1 := h1 (by omega)
        have e3 : (3 * (d : Int) + 1).toNat = 3 * d + 1 := by omega
        by_cases q : own = snd
        · rw [← fb1 ((fp_c g).mpr (by rw [if_neg z0]; exact Or.inr q))]
          simp (disch := omega) only [↓reduceIte, ii_lit, ii_add, ii_sub, ii_mul, ii_neg, ii_lt_t, ii_lt_f, ii_le_t, ii_le_f, ii_eq_t, ii_eq_f, ii_in, ii_cl, ii_shr, ii_shl, ii_and1, ii_and255, Option.bind_some, Option.toList, List.cons_append, List.nil_append, Int.toNat_natCast, mu_s, mu_c, mu_k, bI_i0, bI_i1, bI_n, nb_0, nb_1, bI_ft, bI_ff, Bool.false_eq_true, reduceCtorEq, Bool.true_eq_false, decide_true, decide_false, eq_self, Int.reduceAdd, Int.reduceSub, Int.reduceMul, Int.reduceNeg, Int.reduceToNat, tn30, tn31, tn32, tn20, tn21, d48, e3, g1, g2, e_X11_fits_137, e_X11_fits_142]
        · rw [← fb0 (fun z => (by have := (fp_c g).mp z; rw [if_neg z0] at this; omega))]
          simp (disch := omega) only [↓reduceIte, ii_lit, ii_add, ii_sub, ii_mul, ii_neg, ii_lt_t, ii_lt_f, ii_le_t, ii_le_f, ii_eq_t, ii_eq_f, ii_in, ii_cl, ii_shr, ii_shl, ii_and1, ii_and255, Option.bind_some, Option.toList, List.cons_append, List.nil_append, Int.toNat_natCast, mu_s, mu_c, mu_k, bI_i0, bI_i1, bI_n, nb_0, nb_1, bI_ft, bI_ff, Bool.false_eq_true, reduceCtorEq, Bool.true_eq_false, decide_true, decide_false, eq_self, Int.reduceAdd, Int.reduceSub, Int.reduceMul, Int.reduceNeg, Int.reduceToNat, tn30, tn31, tn32, tn20, tn21, d48, e3, g1, g2, e_X11_fits_137, e_X11_fits_142]
  · have d48 : decide (4 ≤ k ∧ k ≤ 8) = false := decide_eq_false (by omega)
    have d1228 : decide (12 ≤ k ∧ k ≤ 28) = true := decide_eq_true (by omega)
    by_cases q : 1 ≤ own ∧ own ≤ 4
    · have dw : decide (1 ≤ own ∧ own ≤ 4) = true := decide_eq_true q
      by_cases z0 : i = 0
      · rw [← fb1 ((fp_d (by omega)).mpr (by omega))]
        simp (disch := omega) only [↓reduceIte, ii_lit, ii_add, ii_sub, ii_mul, ii_neg, ii_lt_t, ii_lt_f, ii_le_t, ii_le_f, ii_eq_t, ii_eq_f, ii_in, ii_cl, ii_shr, ii_shl, ii_and1, ii_and255, Option.bind_some, Option.toList, List.cons_append, List.nil_append, Int.toNat_natCast, mu_s, mu_c, mu_k, bI_i0, bI_i1, bI_n, nb_0, nb_1, bI_ft, bI_ff, Bool.false_eq_true, reduceCtorEq, Bool.true_eq_false, decide_true, decide_false, eq_self, Int.reduceAdd, Int.reduceSub, Int.reduceMul, Int.reduceNeg, Int.reduceToNat, tn30, tn31, tn32, tn20, tn21, d48, i1228, d1228, dw, e_X11_fits_152, e_X11_fits_170, e_X11_fits_174, e_X11_fits_175]
      · have v6e := v60 (by omega)
        by_cases q2 : own = v6
        · rw [← fb1 ((fp_d (by omega)).mpr (by omega))]
          simp (disch := omega) only [↓reduceIte, ii_lit, ii_add, ii_sub, ii_mul, ii_neg, ii_lt_t, ii_lt_f, ii_le_t, ii_le_f, ii_eq_t, ii_eq_f, ii_in, ii_cl, ii_shr, ii_shl, ii_and1, ii_and255, Option.bind_some, Option.toList, List.cons_append, List.nil_append, Int.toNat_natCast, mu_s, mu_c, mu_k, bI_i0, bI_i1, bI_n, nb_0, nb_1, bI_ft, bI_ff, Bool.false_eq_true, reduceCtorEq, Bool.true_eq_false, decide_true, decide_false, eq_self, Int.reduceAdd, Int.reduceSub, Int.reduceMul, Int.reduceNeg, Int.reduceToNat, tn30, tn31, tn32, tn20, tn21, d48, i1228, d1228, dw, e_X11_fits_152, e_X11_fits_170, e_X11_fits_174, e_X11_fits_175]
        · rw [← fb0 (fun z => (by have := (fp_d (by omega)).mp z; omega))]
          simp (disch := omega) only [↓reduceIte, ii_lit, ii_add, ii_sub, ii_mul, ii_neg, ii_lt_t, ii_lt_f, ii_le_t, ii_le_f, ii_eq_t, ii_eq_f, ii_in, ii_cl, ii_shr, ii_shl, ii_and1, ii_and255, Option.bind_some, Option.toList, List.cons_append, List.nil_append, Int.toNat_natCast, mu_s, mu_c, mu_k, bI_i0, bI_i1, bI_n, nb_0, nb_1, bI_ft, bI_ff, Bool.false_eq_true, reduceCtorEq, Bool.true_eq_false, decide_true, decide_false, eq_self, Int.reduceAdd, Int.reduceSub, Int.reduceMul, Int.reduceNeg, Int.reduceToNat, tn30, tn31, tn32, tn20, tn21, d48, i1228, d1228, dw, e_X11_fits_152, e_X11_fits_170, e_X11_fits_174, e_X11_fits_175]
    · have dw : decide (1 ≤ own ∧ own ≤ 4) = false := decide_eq_false q
      rw [← fb0 (fun z => (by have := (fp_d (by omega)).mp z; omega))]
      simp (disch := omega) only [↓reduceIte, ii_lit, ii_add, ii_sub, ii_mul, ii_neg, ii_lt_t, ii_lt_f, ii_le_t, ii_le_f, ii_eq_t, ii_eq_f, ii_in, ii_cl, ii_shr, ii_shl, ii_and1, ii_and255, Option.bind_some, Option.toList, List.cons_append, List.nil_append, Int.toNat_natCast, mu_s, mu_c, mu_k, bI_i0, bI_i1, bI_n, nb_0, nb_1, bI_ft, bI_ff, Bool.false_eq_true, reduceCtorEq, Bool.true_eq_false, decide_true, decide_false, eq_self, Int.reduceAdd, Int.reduceSub, Int.reduceMul, Int.reduceNeg, Int.reduceToNat, tn30, tn31, tn32, tn20, tn21, d48, i1228, d1228, dw, e_X11_fits_152, e_X11_fits_170, e_X11_fits_174, e_X11_fits_175]
  · have d48 : decide (4 ≤ k ∧ k ≤ 8) = false := decide_eq_false (by omega)
    have d1228 : decide (12 ≤ k ∧ k ≤ 28) = true := decide_eq_true (by omega)
    by_cases q : 1 ≤ own ∧ own ≤ 4
    · have dw : decide (1 ≤ own ∧ own ≤ 4) = true := decide_eq_true q
      by_cases z0 : i = 0
      · rw [← fb1 ((fp_d (by omega)).mpr (by omega))]
        simp (disch := omega) only [↓reduceIte, ii_lit, ii_add, ii_sub, ii_mul, ii_neg, ii_lt_t, ii_lt_f, ii_le_t, ii_le_f, ii_eq_t, ii_eq_f, ii_in, ii_cl, ii_shr, ii_shl, ii_and1, ii_and255, Option.bind_some, Option.toList, List.cons_append, List.nil_append, Int.toNat_natCast, mu_s, mu_c, mu_k, bI_i0, bI_i1, bI_n, nb_0, nb_1, bI_ft, bI_ff, Bool.false_eq_true, reduceCtorEq, Bool.true_eq_false, decide_true, decide_false, eq_self, Int.reduceAdd, Int.reduceSub, Int.reduceMul, Int.reduceNeg, Int.reduceToNat, tn30, tn31, tn32, tn20, tn21, d48, i1228, d1228, dw, e_X11_fits_152, e_X11_fits_170, e_X11_fits_174, e_X11_fits_175]
      · have v6e := v60 (by omega)
        by_cases q2 : own = v6
        · rw [← fb1 ((fp_d (by omega)).mpr (by omega))]
          simp (disch := omega) only [↓reduceIte, ii_lit, ii_add, ii_sub, ii_mul, ii_neg, ii_lt_t, ii_lt_f, ii_le_t, ii_le_f, ii_eq_t, ii_eq_f, ii_in, ii_cl, ii_shr, ii_shl, ii_and1, ii_and255, Option.bind_some, Option.toList, List.cons_append, List.nil_append, Int.toNat_natCast, mu_s, mu_c, mu_k, bI_i0, bI_i1, bI_n, nb_0, nb_1, bI_ft, bI_ff, Bool.false_eq_true, reduceCtorEq, Bool.true_eq_false, decide_true, decide_false, eq_self, Int.reduceAdd, Int.reduceSub, Int.reduceMul, Int.reduceNeg, Int.reduceToNat, tn30, tn31, tn32, tn20, tn21, d48, i1228, d1228, dw, e_X11_fits_152, e_X11_fits_170, e_X11_fits_174, e_X11_fits_175]
        · rw [← fb0 (fun z => (by have := (fp_d (by omega)).mp z; omega))]
          simp (disch := omega) only [↓reduceIte, ii_lit, ii_add, ii_sub, ii_mul, ii_neg, ii_lt_t, ii_lt_f, ii_le_t, ii_le_f, ii_eq_t, ii_eq_f, ii_in, ii_cl, ii_shr, ii_shl, ii_and1, ii_and255, Option.bind_some, Option.toList, List.cons_append, List.nil_append, Int.toNat_natCast, mu_s, mu_c, mu_k, bI_i0, bI_i1, bI_n, nb_0, nb_1, bI_ft, bI_ff, Bool.false_eq_true, reduceCtorEq, Bool.true_eq_false, decide_true, decide_false, eq_self, Int.reduceAdd, Int.reduceSub, Int.reduceMul, Int.reduceNeg, Int.reduceToNat, tn30, tn31, tn32, tn20, tn21, d48, i1228, d1228, dw, e_X11_fits_152, e_X11_fits_170, e_X11_fits_174, e_X11_fits_175]
    · have dw : decide (1 ≤ own ∧ own ≤ 4) = false := decide_eq_false q
      rw [← fb0 (fun z => (by have := (fp_d (by omega)).mp z; omega))]
      simp (disch := omega) only [↓reduceIte, ii_lit, ii_add, ii_sub, ii_mul, ii_neg, ii_lt_t, ii_lt_f, ii_le_t, ii_le_f, ii_eq_t, ii_eq_f, ii_in, ii_cl, ii_shr, ii_shl, ii_and1, ii_and255, Option.bind_some, Option.toList, List.cons_append, List.nil_append, Int.toNat_natCast, mu_s, mu_c, mu_k, bI_i0, bI_i1, bI_n, nb_0, nb_1, bI_ft, bI_ff, Bool.false_eq_true, reduceCtorEq, Bool.true_eq_false, decide_true, decide_false, eq_self, Int.reduceAdd, Int.reduceSub, Int.reduceMul, Int.reduceNeg, Int.reduceToNat, tn30, tn31, tn32, tn20, tn21, d48, i1228, d1228, dw, e_X11_fits_152, e_X11_fits_170, e_X11_fits_174, e_X11_fits_175]
  · have d48 : decide (4 ≤ k ∧ k ≤ 8) = false := decide_eq_false (by omega)
    have d1228 : decide (12 ≤ k ∧ k ≤ 28) = false := decide_eq_false (by omega)
    by_cases q : 1 ≤ own ∧ own ≤ 4
    · have dw : decide (1 ≤ own ∧ own ≤ 4) = true := decide_eq_true q
      by_cases z0 : i = 0
      · rw [← fb1 ((fp_e g).mpr (by omega))]
        simp (disch := omega) only [↓reduceIte, ii_lit, ii_add, ii_sub, ii_mul, ii_neg, ii_lt_t, ii_lt_f, ii_le_t, ii_le_f, ii_eq_t, ii_eq_f, ii_in, ii_cl, ii_shr, ii_shl, ii_and1, ii_and255, Option.bind_some, Option.toList, List.cons_append, List.nil_append, Int.toNat_natCast, mu_s, mu_c, mu_k, bI_i0, bI_i1, bI_n, nb_0, nb_1, bI_ft, bI_ff, Bool.false_eq_true, reduceCtorEq, Bool.true_eq_false, decide_true, decide_false, eq_self, Int.reduceAdd, Int.reduceSub, Int.reduceMul, Int.reduceNeg, Int.reduceToNat, tn30, tn31, tn32, tn20, tn21, d48, i1228, d1228, dw, e_X11_fits_152, e_X11_fits_200, e_X11_fits_204, e_X11_fits_205]
      · have v6e := v60 (by omega)
        by_cases q2 : 4 < own + v6
        · rw [← fb0 (fun z => (by have := (fp_e g).mp z; omega))]
          simp (disch := omega) only [↓reduceIte, ii_lit, ii_add, ii_sub, ii_mul, ii_neg, ii_lt_t, ii_lt_f, ii_le_t, ii_le_f, ii_eq_t, ii_eq_f, ii_in, ii_cl, ii_shr, ii_shl, ii_and1, ii_and255, Option.bind_some, Option.toList, List.cons_append, List.nil_append, Int.toNat_natCast, mu_s, mu_c, mu_k, bI_i0, bI_i1, bI_n, nb_0, nb_1, bI_ft, bI_ff, Bool.false_eq_true, reduceCtorEq, Bool.true_eq_false, decide_true, decide_false, eq_self, Int.reduceAdd, Int.reduceSub, Int.reduceMul, Int.reduceNeg, Int.reduceToNat, tn30, tn31, tn32, tn20, tn21, d48, i1228, d1228, dw, e_X11_fits_152, e_X11_fits_200, e_X11_fits_204, e_X11_fits_205]
        · rw [← fb1 ((fp_e g).mpr (by omega))]
          simp (disch := omega) only [↓reduceIte, ii_lit, ii_add, ii_sub, ii_mul, ii_neg, ii_lt_t, ii_lt_f, ii_le_t, ii_le_f, ii_eq_t, ii_eq_f, ii_in, ii_cl, ii_shr, ii_shl, ii_and1, ii_and255, Option.bind_some, Option.toList, List.cons_append, List.nil_append, Int.toNat_natCast, mu_s, mu_c, mu_k, bI_i0, bI_i1, bI_n, nb_0, nb_1, bI_ft, bI_ff, Bool.false_eq_true, reduceCtorEq, Bool.true_eq_false, decide_true, decide_false, eq_self, Int.reduceAdd, Int.reduceSub, Int.reduceMul, Int.reduceNeg, Int.reduceToNat, tn30, tn31, tn32, tn20, tn21, d48, i1228, d1228, dw, e_X11_fits_152, e_X11_fits_200, e_X11_fits_204, e_X11_fits_205]
    · have dw : decide (1 ≤ own ∧ own ≤ 4) = false := decide_eq_false q
      rw [← fb0 (fun z => (by have := (fp_e g).mp z; omega))]
      simp (disch := omega) only [↓reduceIte, ii_lit, ii_add, ii_sub, ii_mul, ii_neg, ii_lt_t, ii_lt_f, ii_le_t, ii_le_f, ii_eq_t, ii_eq_f, ii_in, ii_cl, ii_shr, ii_shl, ii_and1, ii_and255, Option.bind_some, Option.toList, List.cons_append, List.nil_append, Int.toNat_natCast, mu_s, mu_c, mu_k, bI_i0, bI_i1, bI_n, nb_0, nb_1, bI_ft, bI_ff, Bool.false_eq_true, reduceCtorEq, Bool.true_eq_false, decide_true, decide_false, eq_self, Int.reduceAdd, Int.reduceSub, Int.reduceMul, Int.reduceNeg, Int.reduceToNat, tn30, tn31, tn32, tn20, tn21, d48, i1228, d1228, dw, e_X11_fits_152, e_X11_fits_200, e_X11_fits_204, e_X11_fits_205]
  · have d48 : decide (4 ≤ k ∧ k ≤ 8) = false := decide_eq_false (by omega)
    have d1228 : decide (12 ≤ k ∧ k ≤ 28) = false := decide_eq_false (by omega)
    by_cases q : 1 ≤ own ∧ own ≤ 4
    · have dw : decide (1 ≤ own ∧ own ≤ 4) = true := decide_eq_true q
      by_cases q2 : own ≤ p
      · rw [← fb0 (fun z => (by have := (fp_f g).mp z; omega))]
        simp (disch := omega) only [↓reduceIte, ii_lit, ii_add, ii_sub, ii_mul, ii_neg, ii_lt_t, ii_lt_f, ii_le_t, ii_le_f, ii_eq_t, ii_eq_f, ii_in, ii_cl, ii_shr, ii_shl, ii_and1, ii_and255, Option.bind_some, Option.toList, List.cons_append, List.nil_append, Int.toNat_natCast, mu_s, mu_c, mu_k, bI_i0, bI_i1, bI_n, nb_0, nb_1, bI_ft, bI_ff, Bool.false_eq_true, reduceCtorEq, Bool.true_eq_false, decide_true, decide_false, eq_self, Int.reduceAdd, Int.reduceSub, Int.reduceMul, Int.reduceNeg, Int.reduceToNat, tn30, tn31, tn32, tn20, tn21, d48, i1228, d1228, dw, f5, e_X11_fits_152, e_X11_fits_232, e_X11_fits_233]
      · rw [← fb1 ((fp_f g).mpr (by omega))]
        simp (disch := omega) only [↓reduceIte, ii_lit, ii_add, ii_sub, ii_mul, ii_neg, ii_lt_t, ii_lt_f, ii_le_t, ii_le_f, ii_eq_t, ii_eq_f, ii_in, ii_cl, ii_shr, ii_shl, ii_and1, ii_and255, Option.bind_some, Option.toList, List.cons_append, List.nil_append, Int.toNat_natCast, mu_s, mu_c, mu_k, bI_i0, bI_i1, bI_n, nb_0, nb_1, bI_ft, bI_ff, Bool.false_eq_true, reduceCtorEq, Bool.true_eq_false, decide_true, decide_false, eq_self, Int.reduceAdd, Int.reduceSub, Int.reduceMul, Int.reduceNeg, Int.reduceToNat, tn30, tn31, tn32, tn20, tn21, d48, i1228, d1228, dw, f5, e_X11_fits_152, e_X11_fits_232, e_X11_fits_233]
    · have dw : decide (1 ≤ own ∧ own ≤ 4) = false := decide_eq_false q
      rw [← fb0 (fun z => (by have := (fp_f g).mp z; omega))]
      simp (disch := omega) only [↓reduceIte, ii_lit, ii_add, ii_sub, ii_mul, ii_neg, ii_lt_t, ii_lt_f, ii_le_t, ii_le_f, ii_eq_t, ii_eq_f, ii_in, ii_cl, ii_shr, ii_shl, ii_and1, ii_and255, Option.bind_some, Option.toList, List.cons_append, List.nil_append, Int.toNat_natCast, mu_s, mu_c, mu_k, bI_i0, bI_i1, bI_n, nb_0, nb_1, bI_ft, bI_ff, Bool.false_eq_true, reduceCtorEq, Bool.true_eq_false, decide_true, decide_false, eq_self, Int.reduceAdd, Int.reduceSub, Int.reduceMul, Int.reduceNeg, Int.reduceToNat, tn30, tn31, tn32, tn20, tn21, d48, i1228, d1228, dw, e_X11_fits_152, e_X11_fits_232, e_X11_fits_233]
  · have d48 : decide (4 ≤ k ∧ k ≤ 8) = false := decide_eq_false (by omega)
    have d1228 : decide (12 ≤ k ∧ k ≤ 28) = false := decide_eq_false (by omega)
    have go : mx_D (2, mm_X11_fits, 248, [.ref 47, .int (iI ((d : Int))), .int (iI ((i : Int))), .int (iI (own)), .int (iI (k)), .int (bI (decide (1 ≤ own ∧ own ≤ 4))), .int (iI (v6))], []) h = some (some (.int (bI (fitB k i own fst snd p))), h) := by
      rw [e_X11_fits_248]
      by_cases q : 1 ≤ own ∧ own ≤ 4
      · have dw : decide (1 ≤ own ∧ own ≤ 4) = true := decide_eq_true q
        by_cases q2 : 4 < own + p
        · rw [← fb0 (fun z => (by have := (fp_g g).mp z; omega))]
          simp (disch := omega) only [↓reduceIte, ii_lit, ii_add, ii_sub, ii_mul, ii_neg, ii_lt_t, ii_lt_f, ii_le_t, ii_le_f, ii_eq_t, ii_eq_f, ii_in, ii_cl, ii_shr, ii_shl, ii_and1, ii_and255, Option.bind_some, Option.toList, List.cons_append, List.nil_append, Int.toNat_natCast, mu_s, mu_c, mu_k, bI_i0, bI_i1, bI_n, nb_0, nb_1, bI_ft, bI_ff, Bool.false_eq_true, reduceCtorEq, Bool.true_eq_false, decide_true, decide_false, eq_self, Int.reduceAdd, Int.reduceSub, Int.reduceMul, Int.reduceNeg, Int.reduceToNat, tn30, tn31, tn32, tn20, tn21, dw, f5, e_X11_fits_269, e_X11_fits_270]
        · rw [← fb1 ((fp_g g).mpr (by omega))]
          simp (disch := omega) only [↓reduceIte, ii_lit, ii_add, ii_sub, ii_mul, ii_neg, ii_lt_t, ii_lt_f, ii_le_t, ii_le_f, ii_eq_t, ii_eq_f, ii_in, ii_cl, ii_shr, ii_shl, ii_and1, ii_and255, Option.bind_some, Option.toList, List.cons_append, List.nil_append, Int.toNat_natCast, mu_s, mu_c, mu_k, bI_i0, bI_i1, bI_n, nb_0, nb_1, bI_ft, bI_ff, Bool.false_eq_true, reduceCtorEq, Bool.true_eq_false, decide_true, decide_false, eq_self, Int.reduceAdd, Int.reduceSub, Int.reduceMul, Int.reduceNeg, Int.reduceToNat, tn30, tn31, tn32, tn20, tn21, dw, f5, e_X11_fits_269, e_X11_fits_270]
      · have dw : decide (1 ≤ own ∧ own ≤ 4) = false := decide_eq_false q
        rw [← fb0 (fun z => (by have := (fp_g g).mp z; omega))]
        simp (disch := omega) only [↓reduceIte, ii_lit, ii_add, ii_sub, ii_mul, ii_neg, ii_lt_t, ii_lt_f, ii_le_t, ii_le_f, ii_eq_t, ii_eq_f, ii_in, ii_cl, ii_shr, ii_shl, ii_and1, ii_and255, Option.bind_some, Option.toList, List.cons_append, List.nil_append, Int.toNat_natCast, mu_s, mu_c, mu_k, bI_i0, bI_i1, bI_n, nb_0, nb_1, bI_ft, bI_ff, Bool.false_eq_true, reduceCtorEq, Bool.true_eq_false, decide_true, decide_false, eq_self, Int.reduceAdd, Int.reduceSub, Int.reduceMul, Int.reduceNeg, Int.reduceToNat, tn30, tn31, tn32, tn20, tn21, dw, e_X11_fits_269, e_X11_fits_270]
    rcases g with g | g
    · simp (disch := omega) only [↓reduceIte, ii_lit, ii_add, ii_sub, ii_mul, ii_neg, ii_lt_t, ii_lt_f, ii_le_t, ii_le_f, ii_eq_t, ii_eq_f, ii_in, ii_cl, ii_shr, ii_shl, ii_and1, ii_and255, Option.bind_some, Option.toList, List.cons_append, List.nil_append, Int.toNat_natCast, mu_s, mu_c, mu_k, bI_i0, bI_i1, bI_n, nb_0, nb_1, bI_ft, bI_ff, Bool.false_eq_true, reduceCtorEq, Bool.true_eq_false, decide_true, decide_false, eq_self, Int.reduceAdd, Int.reduceSub, Int.reduceMul, Int.reduceNeg, Int.reduceToNat, tn30, tn31, tn32, tn20, tn21, d48, i1228, d1228, e_X11_fits_152, go]
    · simp (disch := omega) only [↓reduceIte, ii_lit, ii_add, ii_sub, ii_mul, ii_neg, ii_lt_t, ii_lt_f, ii_le_t, ii_le_f, ii_eq_t, ii_eq_f, ii_in, ii_cl, ii_shr, ii_shl, ii_and1, ii_and255, Option.bind_some, Option.toList, List.cons_append, List.nil_append, Int.toNat_natCast, mu_s, mu_c, mu_k, bI_i0, bI_i1, bI_n, nb_0, nb_1, bI_ft, bI_ff, Bool.false_eq_true, reduceCtorEq, Bool.true_eq_false, decide_true, decide_false, eq_self, Int.reduceAdd, Int.reduceSub, Int.reduceMul, Int.reduceNeg, Int.reduceToNat, tn30, tn31, tn32, tn20, tn21, d48, i1228, d1228, e_X11_fits_152, go]
  all_goals
    have d48 : decide (4 ≤ k ∧ k ≤ 8) = false := decide_eq_false (by omega)
    have d1228 : decide (12 ≤ k ∧ k ≤ 28) = false := decide_eq_false (by omega)
    by_cases z0 : i = 0
    · by_cases q : own ≤ 4
      · rw [← fb0 (fun z => (by have := (fp_h (by omega)).mp z; rw [if_pos z0] at this; omega))]
        simp (disch := omega) only [↓reduceIte, ii_lit, ii_add, ii_sub, ii_mul, ii_neg, ii_lt_t, ii_lt_f, ii_le_t, ii_le_f, ii_eq_t, ii_eq_f, ii_in, ii_cl, ii_shr, ii_shl, ii_and1, ii_and255, Option.bind_some, Option.toList, List.cons_append, List.nil_append, Int.toNat_natCast, mu_s, mu_c, mu_k, bI_i0, bI_i1, bI_n, nb_0, nb_1, bI_ft, bI_ff, Bool.false_eq_true, reduceCtorEq, Bool.true_eq_false, decide_true, decide_false, eq_self, Int.reduceAdd, Int.reduceSub, Int.reduceMul, Int.reduceNeg, Int.reduceToNat, tn30, tn31, tn32, tn20, tn21, d48, i1228, d1228, e_X11_fits_152, e_X11_fits_319]
      · rw [← fb1 ((fp_h (by omega)).mpr (by rw [if_pos z0]; omega))]
        simp (disch := omega) only [↓reduceIte, ii_lit, ii_add, ii_sub, ii_mul, ii_neg, ii_lt_t, ii_lt_f, ii_le_t, ii_le_f, ii_eq_t, ii_eq_f, ii_in, ii_cl, ii_shr, ii_shl, ii_and1, ii_and255, Option.bind_some, Option.toList, List.cons_append, List.nil_append, Int.toNat_natCast, mu_s, mu_c, mu_k, bI_i0, bI_i1, bI_n, nb_0, nb_1, bI_ft, bI_ff, Bool.false_eq_true, reduceCtorEq, Bool.true_eq_false, decide_true, decide_false, eq_self, Int.reduceAdd, Int.reduceSub, Int.reduceMul, Int.reduceNeg, Int.reduceToNat, tn30, tn31, tn32, tn20, tn21, d48, i1228, d1228, e_X11_fits_152, e_X11_fits_319]
    · have v6e := v60 (by omega)
      by_cases z1 : i = 1
      · by_cases q : own = 1
        · rw [← fb1 ((fp_h (by omega)).mpr (by rw [if_neg z0, if_pos z1]; exact q))]
          simp (disch := omega) only [↓reduceIte, ii_lit, ii_add, ii_sub, ii_mul, ii_neg, ii_lt_t, ii_lt_f, ii_le_t, ii_le_f, ii_eq_t, ii_eq_f, ii_in, ii_cl, ii_shr, ii_shl, ii_and1, ii_and255, Option.bind_some, Option.toList, List.cons_append, List.nil_append, Int.toNat_natCast, mu_s, mu_c, mu_k, bI_i0, bI_i1, bI_n, nb_0, nb_1, bI_ft, bI_ff, Bool.false_eq_true, reduceCtorEq, Bool.true_eq_false, decide_true, decide_false, eq_self, Int.reduceAdd, Int.reduceSub, Int.reduceMul, Int.reduceNeg, Int.reduceToNat, tn30, tn31, tn32, tn20, tn21, d48, i1228, d1228, e_X11_fits_152, e_X11_fits_319]
        · rw [← fb0 (fun z => (by have := (fp_h (by omega)).mp z; rw [if_neg z0, if_pos z1] at this; exact q this))]
          simp (disch := omega) only [↓reduceIte, ii_lit, ii_add, ii_sub, ii_mul, ii_neg, ii_lt_t, ii_lt_f, ii_le_t, ii_le_f, ii_eq_t, ii_eq_f, ii_in, ii_cl, ii_shr, ii_shl, ii_and1, ii_and255, Option.bind_some, Option.toList, List.cons_append, List.nil_append, Int.toNat_natCast, mu_s, mu_c, mu_k, bI_i0, bI_i1, bI_n, nb_0, nb_1, bI_ft, bI_ff, Bool.false_eq_true, reduceCtorEq, Bool.true_eq_false, decide_true, decide_false, eq_self, Int.reduceAdd, Int.reduceSub, Int.reduceMul, Int.reduceNeg, Int.reduceToNat, tn30, tn31, tn32, tn20, tn21, d48, i1228, d1228, e_X11_fits_152, e_X11_fits_319]
      · by_cases q : own = v6 - 4
        · rw [← fb1 ((fp_h (by omega)).mpr (by rw [if_neg z0, if_neg z1]; omega))]
          simp (disch := omega) only [↓reduceIte, ii_lit, ii_add, ii_sub, ii_mul, ii_neg, ii_lt_t, ii_lt_f, ii_le_t, ii_le_f, ii_eq_t, ii_eq_f, ii_in, ii_cl, ii_shr, ii_shl, ii_and1, ii_and255, Option.bind_some, Option.toList, List.cons_append, List.nil_append, Int.toNat_natCast, mu_s, mu_c, mu_k, bI_i0, bI_i1, bI_n, nb_0, nb_1, bI_ft, bI_ff, Bool.false_eq_true, reduceCtorEq, Bool.true_eq_false, decide_true, decide_false, eq_self, Int.reduceAdd, Int.reduceSub, Int.reduceMul, Int.reduceNeg, Int.reduceToNat, tn30, tn31, tn32, tn20, tn21, d48, i1228, d1228, e_X11_fits_152, e_X11_fits_319]
        · rw [← fb0 (fun z => (by have := (fp_h (by omega)).mp z; rw [if_neg z0, if_neg z1] at this; omega))]
          simp (disch := omega) only [↓reduceIte, ii_lit, ii_add, ii_sub, ii_mul, ii_neg, ii_lt_t, ii_lt_f, ii_le_t, ii_le_f, ii_eq_t, ii_eq_f, ii_in, ii_cl, ii_shr, ii_shl, ii_and1, ii_and255, Option.bind_some, Option.toList, List.cons_append, List.nil_append, Int.toNat_natCast, mu_s, mu_c, mu_k, bI_i0, bI_i1, bI_n, nb_0, nb_1, bI_ft, bI_ff, Bool.false_eq_true, reduceCtorEq, Bool.true_eq_false, decide_true, decide_false, eq_self, Int.reduceAdd, Int.reduceSub, Int.reduceMul, Int.reduceNeg, Int.reduceToNat, tn30, tn31, tn32, tn20, tn21, d48, i1228, d1228, e_X11_fits_152, e_X11_fits_319]
end FB
