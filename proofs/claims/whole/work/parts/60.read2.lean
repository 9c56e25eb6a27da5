/-! the class's readSort, readNewName, readBehind, read -/
section RC
variable {c : Nat → Int} {len N : Nat} {s : Sc} {A : Nat → Prop} {j n : Nat} {ts : Nat → Tm} {h : mx_H}
/-- a bracket, for a whole command -/
theorem brk0 (ch : Int) (R : RdC c len N s [] j n ts h) (hj : j < 2000) (hc : i32 ch) : (jO c len j ch = true ∧ ∃ h', mx_C mm_X4_bracket [.ref 18, .int (iI (ch))] h = some (some (.int (iI (1))), h') ∧ RdC c len N s [] (j + 1) n ts h' ∧ RdY h h' ∧ ∀ k, k ≠ 3 → k ≠ 4 → h'.1 18 k = h.1 18 k) ∨ (¬ jO c len j ch = true ∧ mx_C mm_X4_bracket [.ref 18, .int (iI (ch))] h = some (some (.int (iI (0))), (mx_u h.1 18 4 (iI (j : Int)), h.2.1, h.2.2))) := by
  rcases brk (L := 0) ch R hj hc with ⟨q, h', a, b, d⟩ | q
  · exact Or.inl ⟨q, h', a, b, RdY_x d, d.2.2.1⟩
  · exact Or.inr q
theorem X4_readSort_c (R : RdC c len N s [] j n ts h) (hj : j < 900) : RdWO c len N s n ts h (rdS c len j) (mx_C mm_X4_readSort [.ref 18] h) := by
  rw [c_X4_readSort, e_X4_readSort_0, R.2.2.2.2.1, X8_wordAt_c R.2.1 (by omega)]
  refine Eq.subst (motive := fun X => RdWO c len N s n ts h _ X) (e_X4_readSort_11 (wRf (jW c len j)) _ rf_wj).symm ?_
  unfold rdS
  by_cases q0 : jW c len j = some 0
  · rw [if_pos q0, if_pos (c := (mx_rf (wRf (jW c len j)) : Value) = .ref 1000) ((rf_is 0 rfl).mpr q0)]
    have R3 : RdC c len N s [] j n ts (mx_u h.1 18 6 (iI 0), h.2.1, h.2.2) := RdC_w R (by decide)
    have R4 := RdC_3 (j + 1) R3
    refine ⟨(mx_u (mx_u h.1 18 6 (iI 0)) 18 3 (iI ((j + 1 : Nat) : Int)), h.2.1, h.2.2), ?_, R4, ?_, RdY_t (h1 := (mx_u h.1 18 6 (iI 0), h.2.1, h.2.2)) RdY_18 RdY_18, ?_⟩
    · rw [mu_k _ _ (by decide), R.2.2.2.2.1, ii_s1]
      rfl
    · dsimp only
      rw [mu_k _ _ (by decide), mu_s]
    · dsimp only
      rw [mu_k _ _ (by decide), mu_k _ _ (by decide)]
  rw [if_neg q0, if_neg (c := (mx_rf (wRf (jW c len j)) : Value) = .ref 1000) (fun z => q0 ((rf_is 0 rfl).mp z))]
  have f112 : ∀ h' : mx_H, mx_D (5, mm_X4_readSort, 112, [.ref 18], []) h' = some (some (.int (iI (0))), h') := by
    intro h'
    rw [e_X4_readSort_112]
    rfl
  have w4 : ∀ (h' : mx_H) (j' : Nat), RdC c len N s [] j' n ts h' → j' < 1000 → RdWO c len N s n ts h' (rdW c len 4 j') (mx_C mm_X4_readWidth [.ref 18, .int 4] h') := fun h' j' R' hj' => X4_readWidth_c (most := 4) (by decide) R' hj'
  have w1 : ∀ (h' : mx_H) (j' : Nat), RdC c len N s [] j' n ts h' → j' < 1000 → RdWO c len N s n ts h' (rdW c len 1 j') (mx_C mm_X4_readWidth [.ref 18, .int 1] h') := fun h' j' R' hj' => X4_readWidth_c (most := 1) (by decide) R' hj'
  rcases brk0 40 R (by omega) (by decide) with ⟨q1, h1, b1, R1, Y1, u1⟩ | ⟨q1, b1⟩
  rotate_left
  · rw [if_pos q1]
    have b1' : mx_C mm_X4_bracket [.ref 18, .int 40] h = _ := b1
    rw [b1']
    refine RdWO_f ?_ (by omega) R RdY_r rfl
    simp (disch := omega) only [↓reduceIte, ii_lit, ii_add, ii_sub, ii_mul, ii_neg, ii_lt_t, ii_lt_f, ii_le_t, ii_le_f, ii_eq_t, ii_eq_f, ii_in, ii_cl, ii_shr, ii_shl, ii_and1, ii_and255, Option.bind_some, Option.toList, List.cons_append, List.nil_append, Int.toNat_natCast, mu_s, mu_c, mu_k, bI_i0, bI_i1, bI_n, nb_0, nb_1, bI_ft, bI_ff, Bool.false_eq_true, reduceCtorEq, Bool.true_eq_false, decide_true, decide_false, eq_self, Int.reduceAdd, Int.reduceSub, Int.reduceMul, Int.reduceNeg, Int.reduceToNat, tn30, tn31, tn32, tn20, tn21, e_X4_readSort_40]
  rw [if_neg (fun z => z q1)]
  have b1' : mx_C mm_X4_bracket [.ref 18, .int 40] h = _ := b1
  rw [b1']
  refine Eq.subst (motive := fun X => RdWO c len N s n ts h _ X) (e_X4_readSort_40 (s0 := iI 1) ..).symm ?_
  rw [if_neg (show ¬ iI 1 = 0 by decide), R1.2.2.2.2.1, X8_wordAt_c R1.2.1 (by omega)]
  refine Eq.subst (motive := fun X => RdWO c len N s n ts h _ X) (e_X4_readSort_56 (wRf (jW c len (j + 1))) _ rf_wj).symm ?_
  have v5 := u1 5 (by decide) (by decide)
  by_cases q2 : jW c len (j + 1) = some 2
  rotate_left
  · rw [if_pos q2, if_neg (c := (mx_rf (wRf (jW c len (j + 1))) : Value) = .ref 1002) (fun z => q2 ((rf_is 2 rfl).mp z))]
    refine RdWO_t Y1 v5 ?_
    have O := w4 h1 (j + 1) R1 (by omega)
    cases r : rdW c len 4 (j + 1) with
    | inl e =>
      rw [r] at O
      obtain ⟨h', j', o1, o⟩ := O
      rw [o1]
      exact ⟨h', j', (e_X4_readSort_67 ..).trans (if_pos rfl), o⟩
    | inr x =>
      obtain ⟨w, j'⟩ := x
      rw [r] at O
      obtain ⟨h', o1, o⟩ := O
      rw [o1]
      exact ⟨h', (e_X4_readSort_67 ..).trans (if_pos rfl), o⟩
  rw [if_neg (fun z => z q2), if_pos (c := (mx_rf (wRf (jW c len (j + 1))) : Value) = .ref 1002) ((rf_is 2 rfl).mpr q2), R1.2.2.2.2.1, ii_s1]
  have R2 := RdC_3 (j + 1 + 1) R1
  have Y2 : RdY h (mx_u h1.1 18 3 (iI ((j + 1 + 1 : Nat) : Int)), h1.2.1, h1.2.2) := RdY_t Y1 RdY_18
  have z2 : (mx_u h1.1 18 3 (iI ((j + 1 + 1 : Nat) : Int)), h1.2.1, h1.2.2).1 18 5 = h.1 18 5 := by dsimp only; rw [mu_k _ _ (by decide)]; exact v5
  generalize (mx_u h1.1 18 3 (iI ((j + 1 + 1 : Nat) : Int)), h1.2.1, h1.2.2) = h2 at R2 Y2 z2
  rcases brk0 40 R2 (by omega) (by decide) with ⟨q3, h3, b3, R3, Y3, u3⟩ | ⟨q3, b3⟩
  rotate_left
  · rw [if_pos q3]
    have b3' : mx_C mm_X4_bracket [.ref 18, .int 40] h2 = _ := b3
    rw [b3']
    refine RdWO_f ?_ (by omega) R2 Y2 z2
    simp (disch := omega) only [↓reduceIte, ii_lit, ii_add, ii_sub, ii_mul, ii_neg, ii_lt_t, ii_lt_f, ii_le_t, ii_le_f, ii_eq_t, ii_eq_f, ii_in, ii_cl, ii_shr, ii_shl, ii_and1, ii_and255, Option.bind_some, Option.toList, List.cons_append, List.nil_append, Int.toNat_natCast, mu_s, mu_c, mu_k, bI_i0, bI_i1, bI_n, nb_0, nb_1, bI_ft, bI_ff, Bool.false_eq_true, reduceCtorEq, Bool.true_eq_false, decide_true, decide_false, eq_self, Int.reduceAdd, Int.reduceSub, Int.reduceMul, Int.reduceNeg, Int.reduceToNat, tn30, tn31, tn32, tn20, tn21, e_X4_readSort_84, f112]
  rw [if_neg (fun z => z q3)]
  have b3' : mx_C mm_X4_bracket [.ref 18, .int 40] h2 = _ := b3
  rw [b3']
  refine Eq.subst (motive := fun X => RdWO c len N s n ts h _ X) (e_X4_readSort_84 (s0 := iI 1) ..).symm ?_
  rw [if_neg (show ¬ iI 1 = 0 by decide)]
  have O1 := w1 h3 (j + 1 + 1 + 1) R3 (by omega)
  have z3 : h3.1 18 5 = h.1 18 5 := (u3 5 (by decide) (by decide)).trans z2
  refine RdWO_t (RdY_t Y2 Y3) z3 ?_
  unfold rdS2
  rw [show j + 3 = j + 1 + 1 + 1 from rfl]
  cases r : rdW c len 1 (j + 1 + 1 + 1) with
  | inl e =>
    rw [r] at O1
    obtain ⟨h', j', o1, o⟩ := O1
    rw [o1]
    refine ⟨h', j', ?_, o⟩
    simp (disch := omega) only [↓reduceIte, ii_lit, ii_add, ii_sub, ii_mul, ii_neg, ii_lt_t, ii_lt_f, ii_le_t, ii_le_f, ii_eq_t, ii_eq_f, ii_in, ii_cl, ii_shr, ii_shl, ii_and1, ii_and255, Option.bind_some, Option.toList, List.cons_append, List.nil_append, Int.toNat_natCast, mu_s, mu_c, mu_k, bI_i0, bI_i1, bI_n, nb_0, nb_1, bI_ft, bI_ff, Bool.false_eq_true, reduceCtorEq, Bool.true_eq_false, decide_true, decide_false, eq_self, Int.reduceAdd, Int.reduceSub, Int.reduceMul, Int.reduceNeg, Int.reduceToNat, tn30, tn31, tn32, tn20, tn21, e_X4_readSort_92, f112]
  | inr x =>
    obtain ⟨w, j4⟩ := x
    have j4b : j4 = j + 1 + 1 + 1 + 4 := by
      unfold rdW at r
      split at r
      · cases r
      · split at r
        · cases r
        · split at r
          · cases r
          · split at r
            · injection r with r; injection r with _ r; exact r.symm
            · cases r
    rw [r] at O1
    obtain ⟨h4, o1, R4, o3, Y4, o5⟩ := O1
    rw [o1]
    refine RdWO_t Y4 o5 ?_
    dsimp only
    refine Eq.subst (motive := fun X => RdWO c len N s n ts h4 _ X) (e_X4_readSort_92 (s0 := iI 1) ..).symm ?_
    rw [if_neg (show ¬ iI 1 = 0 by decide)]
    rcases brk0 40 R4 (by omega) (by decide) with ⟨q5, h5, b5, R5, Y5, u5⟩ | ⟨q5, b5⟩
    rotate_left
    · rw [if_pos q5]
      have b5' : mx_C mm_X4_bracket [.ref 18, .int 40] h4 = _ := b5
      rw [b5']
      refine RdWO_f ?_ (by omega) R4 RdY_r rfl
      simp (disch := omega) only [↓reduceIte, ii_lit, ii_add, ii_sub, ii_mul, ii_neg, ii_lt_t, ii_lt_f, ii_le_t, ii_le_f, ii_eq_t, ii_eq_f, ii_in, ii_cl, ii_shr, ii_shl, ii_and1, ii_and255, Option.bind_some, Option.toList, List.cons_append, List.nil_append, Int.toNat_natCast, mu_s, mu_c, mu_k, bI_i0, bI_i1, bI_n, nb_0, nb_1, bI_ft, bI_ff, Bool.false_eq_true, reduceCtorEq, Bool.true_eq_false, decide_true, decide_false, eq_self, Int.reduceAdd, Int.reduceSub, Int.reduceMul, Int.reduceNeg, Int.reduceToNat, tn30, tn31, tn32, tn20, tn21, e_X4_readSort_101, f112]
    rw [if_neg (fun z => z q5)]
    have b5' : mx_C mm_X4_bracket [.ref 18, .int 40] h4 = _ := b5
    rw [b5']
    refine Eq.subst (motive := fun X => RdWO c len N s n ts h4 _ X) (e_X4_readSort_101 (s0 := iI 1) ..).symm ?_
    rw [if_neg (show ¬ iI 1 = 0 by decide)]
    have O2 := w4 h5 (j4 + 1) R5 (by omega)
    refine RdWO_t Y5 (u5 5 (by decide) (by decide)) ?_
    cases r2 : rdW c len 4 (j4 + 1) with
    | inl e =>
      rw [r2] at O2
      obtain ⟨h', j', o1, o⟩ := O2
      rw [o1]
      refine ⟨h', j', ?_, o⟩
      simp (disch := omega) only [↓reduceIte, ii_lit, ii_add, ii_sub, ii_mul, ii_neg, ii_lt_t, ii_lt_f, ii_le_t, ii_le_f, ii_eq_t, ii_eq_f, ii_in, ii_cl, ii_shr, ii_shl, ii_and1, ii_and255, Option.bind_some, Option.toList, List.cons_append, List.nil_append, Int.toNat_natCast, mu_s, mu_c, mu_k, bI_i0, bI_i1, bI_n, nb_0, nb_1, bI_ft, bI_ff, Bool.false_eq_true, reduceCtorEq, Bool.true_eq_false, decide_true, decide_false, eq_self, Int.reduceAdd, Int.reduceSub, Int.reduceMul, Int.reduceNeg, Int.reduceToNat, tn30, tn31, tn32, tn20, tn21, e_X4_readSort_109, f112]
    | inr x =>
      obtain ⟨w6, j6⟩ := x
      have j6b : j6 = j4 + 1 + 4 := by
        unfold rdW at r2
        split at r2
        · cases r2
        · split at r2
          · cases r2
          · split at r2
            · cases r2
            · split at r2
              · injection r2 with r2; injection r2 with _ r2; exact r2.symm
              · cases r2
      rw [r2] at O2
      obtain ⟨h6, o1, R6, s6, Y6, o6⟩ := O2
      rw [o1]
      dsimp only
      refine Eq.subst (motive := fun X => RdWO c len N s n ts h5 _ X) (e_X4_readSort_109 (s0 := iI 1) ..).symm ?_
      rw [if_neg (show ¬ iI 1 = 0 by decide), s6]
      have a4 : iI w6 + 4 = iI (w6 + 4) := ii_add w6 4
      rw [a4]
      have R7 : RdC c len N s [] j6 n ts (mx_u h6.1 18 6 (iI (w6 + 4)), h6.2.1, h6.2.2) := RdC_w R6 (by decide)
      have Y7 : RdY h5 (mx_u h6.1 18 6 (iI (w6 + 4)), h6.2.1, h6.2.2) := RdY_t Y6 RdY_18
      have z7 : (mx_u h6.1 18 6 (iI (w6 + 4)), h6.2.1, h6.2.2).1 18 5 = h5.1 18 5 := by dsimp only; rw [mu_k _ _ (by decide)]; exact o6
      have s7 : (mx_u h6.1 18 6 (iI (w6 + 4)), h6.2.1, h6.2.2).1 18 6 = iI (w6 + 4) := by dsimp only; exact mu_s _ _ _ _
      generalize (mx_u h6.1 18 6 (iI (w6 + 4)), h6.2.1, h6.2.2) = h7 at R7 Y7 z7 s7
      rcases brk0 41 R7 (by omega) (by decide) with ⟨q8, h8, b8, R8, Y8, u8⟩ | ⟨q8, b8⟩
      · rw [if_pos q8]
        have b8' : mx_C mm_X4_bracket [.ref 18, .int 41] h7 = _ := b8
        rw [b8']
        exact ⟨h8, (e_X4_readSort_130 ..).trans (if_pos rfl), R8, (u8 6 (by decide) (by decide)).trans s7, RdY_t Y7 Y8, (u8 5 (by decide) (by decide)).trans z7⟩
      · rw [if_neg q8]
        have b8' : mx_C mm_X4_bracket [.ref 18, .int 41] h7 = _ := b8
        rw [b8']
        exact RdWO_f ((e_X4_readSort_130 ..).trans (if_pos rfl)) (by omega) R7 Y7 z7
theorem rdW_b {m : Int} {e : Nat} {w : Int} {j' : Nat} (hm : m ≤ 4) (r : rdW c len m j = .inr (w, j')) : j' = j + 4 ∧ 1 ≤ w ∧ w ≤ m ∧ w = jU c len (j + 2) ∧ jB c len j + 4 ≤ jB c len j' := by
  unfold rdW at r
  by_cases q1 : jW c len j = some 3
  · rw [if_neg (fun z => z q1)] at r
    by_cases q2 : jW c len (j + 1) = some 1
    · rw [if_neg (fun z => z q2)] at r
      by_cases q3 : jU c len (j + 2) < 1 ∨ m < jU c len (j + 2)
      · rw [if_pos q3] at r; cases r
      · rw [if_neg q3] at r
        by_cases q4 : jO c len (j + 3) 41 = true
        · rw [if_pos q4] at r
          injection r with r
          injection r with r1 r2
          have a1 := adv_W1 q1
          have a2 := adv_W1 q2
          have a3 := jU_l (c := c) (len := len) (j := j + 2) (by omega)
          have a4 := adv_O q4
          subst r1
          subst r2
          simp only [Nat.add_assoc, Nat.reduceAdd] at a1 a2 a3 a4
          exact ⟨rfl, by omega, by omega, rfl, by omega⟩
        · rw [if_neg q4] at r; cases r
    · rw [if_pos q2] at r; cases r
  · rw [if_pos q1] at r; cases r
theorem rdS_b {so : Int} {j' : Nat} (r : rdS c len j = .inr (so, j')) : j < j' ∧ j' ≤ j + 13 ∧ 0 ≤ so ∧ so ≤ 8 := by
  unfold rdS at r
  by_cases q0 : jW c len j = some 0
  · rw [if_pos q0] at r
    injection r with r; injection r with r1 r2
    omega
  rw [if_neg q0] at r
  by_cases q1 : jO c len j 40 = true
  · rw [if_neg (fun z => z q1)] at r
    by_cases q2 : jW c len (j + 1) = some 2
    · rw [if_neg (fun z => z q2)] at r
      by_cases q3 : jO c len (j + 2) 40 = true
      · rw [if_neg (fun z => z q3)] at r
        unfold rdS2 at r
        cases r1 : rdW c len 1 (j + 3) with
        | inl e => rw [r1] at r; cases r
        | inr x =>
          obtain ⟨w, j4⟩ := x
          rw [r1] at r
          have b1 := rdW_b (e := 0) (by decide) r1
          dsimp only at r
          split at r
          · cases r
          · cases r2 : rdW c len 4 (j4 + 1) with
            | inl e => rw [r2] at r; cases r
            | inr x =>
              obtain ⟨w6, j6⟩ := x
              rw [r2] at r
              have b2 := rdW_b (e := 0) (by decide) r2
              dsimp only at r
              split at r
              · injection r with r; injection r with r1 r2
                omega
              · cases r
      · rw [if_pos q3] at r; cases r
    · rw [if_pos q2] at r
      have b := rdW_b (e := 0) (by decide) r
      omega
  · rw [if_pos q1] at r; cases r
end RC
