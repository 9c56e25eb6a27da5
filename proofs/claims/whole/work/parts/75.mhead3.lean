/-! the reference's readHead, parts, fits, build -/
theorem X11_parts_c {k : Int} (h : mx_H) (hk : 4 ≤ k ∧ k ≤ 34) : mx_C mm_X11_parts [.int (iI (k))] h = some (some (.int (iI (np k))), h) := by
  rw [c_X11_parts, e_X11_parts_0]
  have i1 : mx_C mm_X11_in [.int (iI k), .int (iI 30), .int (iI 32)] h = _ := X11_in_c (b := 30) (c := 32) h ⟨by omega, by decide, by decide⟩
  unfold np
  rw [if_neg (show ¬ k ≤ 3 by omega)]
  by_cases q : k = 4 ∨ k = 12 ∨ k = 13 ∨ (30 ≤ k ∧ k ≤ 32)
  · rw [if_pos q]
    by_cases p1 : k = 4
    · simp (disch := omega) only [↓reduceIte, ii_lit, ii_add, ii_sub, ii_mul, ii_neg, ii_lt_t, ii_lt_f, ii_le_t, ii_le_f, ii_eq_t, ii_eq_f, ii_in, ii_cl, ii_shr, ii_shl, ii_and1, ii_and255, Option.bind_some, Option.toList, List.cons_append, List.nil_append, Int.toNat_natCast, mu_s, mu_c, mu_k, bI_i0, bI_i1, bI_n, nb_0, nb_1, bI_ft, bI_ff, Bool.false_eq_true, reduceCtorEq, Bool.true_eq_false, decide_true, decide_false, eq_self, Int.reduceAdd, Int.reduceSub, Int.reduceMul, Int.reduceNeg, Int.reduceToNat, tn30, tn31, tn32, tn20, tn21, e_X11_parts_28, e_X11_parts_49]
    by_cases p2 : k = 12
    · simp (disch := omega) only [↓reduceIte, ii_lit, ii_add, ii_sub, ii_mul, ii_neg, ii_lt_t, ii_lt_f, ii_le_t, ii_le_f, ii_eq_t, ii_eq_f, ii_in, ii_cl, ii_shr, ii_shl, ii_and1, ii_and255, Option.bind_some, Option.toList, List.cons_append, List.nil_append, Int.toNat_natCast, mu_s, mu_c, mu_k, bI_i0, bI_i1, bI_n, nb_0, nb_1, bI_ft, bI_ff, Bool.false_eq_true, reduceCtorEq, Bool.true_eq_false, decide_true, decide_false, eq_self, Int.reduceAdd, Int.reduceSub, Int.reduceMul, Int.reduceNeg, Int.reduceToNat, tn30, tn31, tn32, tn20, tn21, e_X11_parts_28, e_X11_parts_49]
    by_cases p3 : k = 13
    · simp (disch := omega) only [↓reduceIte, ii_lit, ii_add, ii_sub, ii_mul, ii_neg, ii_lt_t, ii_lt_f, ii_le_t, ii_le_f, ii_eq_t, ii_eq_f, ii_in, ii_cl, ii_shr, ii_shl, ii_and1, ii_and255, Option.bind_some, Option.toList, List.cons_append, List.nil_append, Int.toNat_natCast, mu_s, mu_c, mu_k, bI_i0, bI_i1, bI_n, nb_0, nb_1, bI_ft, bI_ff, Bool.false_eq_true, reduceCtorEq, Bool.true_eq_false, decide_true, decide_false, eq_self, Int.reduceAdd, Int.reduceSub, Int.reduceMul, Int.reduceNeg, Int.reduceToNat, tn30, tn31, tn32, tn20, tn21, e_X11_parts_28, e_X11_parts_49]
    have d1 : decide (30 ≤ k ∧ k ≤ 32) = true := decide_eq_true (by omega)
    simp (disch := omega) only [↓reduceIte, ii_lit, ii_add, ii_sub, ii_mul, ii_neg, ii_lt_t, ii_lt_f, ii_le_t, ii_le_f, ii_eq_t, ii_eq_f, ii_in, ii_cl, ii_shr, ii_shl, ii_and1, ii_and255, Option.bind_some, Option.toList, List.cons_append, List.nil_append, Int.toNat_natCast, mu_s, mu_c, mu_k, bI_i0, bI_i1, bI_n, nb_0, nb_1, bI_ft, bI_ff, Bool.false_eq_true, reduceCtorEq, Bool.true_eq_false, decide_true, decide_false, eq_self, Int.reduceAdd, Int.reduceSub, Int.reduceMul, Int.reduceNeg, Int.reduceToNat, tn30, tn31, tn32, tn20, tn21, i1, d1, e_X11_parts_25, e_X11_parts_28, e_X11_parts_49]
  · rw [if_neg q]
    have d1 : decide (30 ≤ k ∧ k ≤ 32) = false := decide_eq_false (by omega)
    by_cases p1 : k = 11
    · rw [if_pos (Or.inl p1)]
      simp (disch := omega) only [↓reduceIte, ii_lit, ii_add, ii_sub, ii_mul, ii_neg, ii_lt_t, ii_lt_f, ii_le_t, ii_le_f, ii_eq_t, ii_eq_f, ii_in, ii_cl, ii_shr, ii_shl, ii_and1, ii_and255, Option.bind_some, Option.toList, List.cons_append, List.nil_append, Int.toNat_natCast, mu_s, mu_c, mu_k, bI_i0, bI_i1, bI_n, nb_0, nb_1, bI_ft, bI_ff, Bool.false_eq_true, reduceCtorEq, Bool.true_eq_false, decide_true, decide_false, eq_self, Int.reduceAdd, Int.reduceSub, Int.reduceMul, Int.reduceNeg, Int.reduceToNat, tn30, tn31, tn32, tn20, tn21, i1, d1, e_X11_parts_25, e_X11_parts_44, e_X11_parts_49]
    by_cases p2 : k = 34
    · rw [if_pos (Or.inr p2)]
      simp (disch := omega) only [↓reduceIte, ii_lit, ii_add, ii_sub, ii_mul, ii_neg, ii_lt_t, ii_lt_f, ii_le_t, ii_le_f, ii_eq_t, ii_eq_f, ii_in, ii_cl, ii_shr, ii_shl, ii_and1, ii_and255, Option.bind_some, Option.toList, List.cons_append, List.nil_append, Int.toNat_natCast, mu_s, mu_c, mu_k, bI_i0, bI_i1, bI_n, nb_0, nb_1, bI_ft, bI_ff, Bool.false_eq_true, reduceCtorEq, Bool.true_eq_false, decide_true, decide_false, eq_self, Int.reduceAdd, Int.reduceSub, Int.reduceMul, Int.reduceNeg, Int.reduceToNat, tn30, tn31, tn32, tn20, tn21, i1, d1, e_X11_parts_25, e_X11_parts_44, e_X11_parts_49]
    rw [if_neg (c := k = 11 ∨ k = 34) (by omega)]
    simp (disch := omega) only [↓reduceIte, ii_lit, ii_add, ii_sub, ii_mul, ii_neg, ii_lt_t, ii_lt_f, ii_le_t, ii_le_f, ii_eq_t, ii_eq_f, ii_in, ii_cl, ii_shr, ii_shl, ii_and1, ii_and255, Option.bind_some, Option.toList, List.cons_append, List.nil_append, Int.toNat_natCast, mu_s, mu_c, mu_k, bI_i0, bI_i1, bI_n, nb_0, nb_1, bI_ft, bI_ff, Bool.false_eq_true, reduceCtorEq, Bool.true_eq_false, decide_true, decide_false, eq_self, Int.reduceAdd, Int.reduceSub, Int.reduceMul, Int.reduceNeg, Int.reduceToNat, tn30, tn31, tn32, tn20, tn21, i1, d1, e_X11_parts_25, e_X11_parts_44, e_X11_parts_49]
section HD
variable {c : Nat → Int} {len j n : Nat} {s : Sc} {fs : List Fr} {ts : Nat → Tm} {h : mx_H}
theorem X11_readHead_c {j0 : Nat} (R : RdM c len s fs j n ts h) (hf : fs.length < 8) : RhO c len s fs n ts h (hdH c len j0 j) (mx_C mm_X11_readHead [.ref 47, .int (iI ((jB c len j0 : Int)))] h) := by
  have dd := R.2.2.2.1
  have dn : (iI (fs.length : Int)).toNatClampNeg = fs.length := by rw [ii_cl (by omega)]; exact Int.toNat_natCast _
  have din := in_t (a := (fs.length : Int)) (n := 12) (by omega)
  have s0 : h.1 47 2 = iI (jS c len j) := R.1.2.2.2.1
  have R1 := RdM_u (a := 61) (k := fs.length) (x := iI 0) (RdM_u (a := 60) (k := fs.length) (x := iI 0) R (by omega)) (by omega)
  have X1 : MdX fs.length h (mx_u (mx_u h.1 60 fs.length (iI 0)) 61 fs.length (iI 0), h.2.1, h.2.2) := MdX_t (h1 := (mx_u h.1 60 fs.length (iI 0), h.2.1, h.2.2)) (Nat.le_refl _) (MdX_u (by omega)) (MdX_u (by omega))
  have h7 : (mx_u (mx_u h.1 60 fs.length (iI 0)) 61 fs.length (iI 0), h.2.1, h.2.2).1 47 7 = h.1 47 7 := by dsimp only; rw [mu_c _ _ _ _ (by decide), mu_c _ _ _ _ (by decide)]
  have g60 : (mx_u (mx_u h.1 60 fs.length (iI 0)) 61 fs.length (iI 0), h.2.1, h.2.2).1 60 fs.length = iI 0 := by dsimp only; rw [mu_c _ _ _ _ (by decide), mu_s]
  have g61 : (mx_u (mx_u h.1 60 fs.length (iI 0)) 61 fs.length (iI 0), h.2.1, h.2.2).1 61 fs.length = iI 0 := by dsimp only; rw [mu_s]
  rw [c_X11_readHead, e_X11_readHead_0]
  simp only [dd, dn, din, mu_c _ _ _ _ (show (47 : Nat) ≠ 60 by decide), mu_c _ _ _ _ (show (47 : Nat) ≠ 61 by decide), ↓reduceIte, s0]
  dsimp only at R1 X1 h7 g60 g61
  have z0 : (0 : Int32) = iI 0 := rfl
  rw [z0]
  have l5 : h.2.1 47 5 = (mx_u (mx_u h.1 60 fs.length (iI 0)) 61 fs.length (iI 0), h.2.1, h.2.2).2.1 47 5 := rfl
  have l6 : h.2.1 47 6 = (mx_u (mx_u h.1 60 fs.length (iI 0)) 61 fs.length (iI 0), h.2.1, h.2.2).2.1 47 6 := rfl
  rw [l5, l6]
  obtain ⟨h1, hh1⟩ : ∃ h1 : mx_H, h1 = (mx_u (mx_u h.1 60 fs.length (iI 0)) 61 fs.length (iI 0), h.2.1, h.2.2) := ⟨_, rfl⟩
  rw [← hh1] at R1 X1 ⊢
  have h7 : h1.1 47 7 = h.1 47 7 := by rw [hh1]; exact h7
  have g60 : h1.1 60 fs.length = iI 0 := by rw [hh1]; exact g60
  have g61 : h1.1 61 fs.length = iI 0 := by rw [hh1]; exact g61
  clear hh1 l5 l6
  refine RhO_t X1 h7 ?_
  unfold hdH
  by_cases q1 : jO c len j 40 = true
  · rw [if_pos q1, jS_1.mpr q1, if_pos (show iI 1 = 1 from rfl)]
    obtain ⟨h2, a2, J2, F2⟩ := X11_next_j R1.1
    rw [a2]
    refine RhO_t (MdX_n F2) (F2.1 47 7 (by decide)) ?_
    have O := X11_readIndexed_c (j0 := j0) (RdM_n R1 F2 J2) hf ((F2.1 61 _ (by omega)).trans g61)
    refine Eq.subst (motive := fun X => RhO c len s fs n ts h2 _ X) (e_X11_readHead_32 ..).symm ?_
    dsimp only
    cases r : hdF j0 (hdI c len (j + 1)) with
    | inl e =>
      rw [r] at O
      obtain ⟨h', o1, o2⟩ := O
      rw [o1]
      exact ⟨h', (e_X11_readHead_37 ..).trans (if_pos rfl), o2⟩
    | inr x =>
      obtain ⟨f, j'⟩ := x
      rw [r] at O
      obtain ⟨h', o1, o2⟩ := O
      rw [o1]
      exact ⟨h', (e_X11_readHead_37 ..).trans (if_pos rfl), o2⟩
  rw [if_neg q1, if_neg (jS_n1 (fun z => q1 (jS_1.mp z)))]
  have J1 := R1.1
  have s1 : h1.1 47 2 = iI (jS c len j) := J1.2.2.2.1
  have kb := kdW_b (jW c len j) (fun w z => jW_lt z)
  -- to the kind
  have kd : (if iI (jS c len j) = 3 then (mx_C mm_X11_kindOf [.long (h1.2.1 47 5), .long (h1.2.1 47 6)] h1).bind (fun o => mx_D (8, mm_X11_readHead, 57, [.ref 47, .int (iI ((jB c len j0 : Int))), mx_junk], o.1.toList ++ []) o.2) else mx_D (8, mm_X11_readHead, 61, [.ref 47, .int (iI ((jB c len j0 : Int))), mx_junk], [.int (-1)]) h1) = mx_D (8, mm_X11_readHead, 61, [.ref 47, .int (iI ((jB c len j0 : Int))), mx_junk], [.int (iI (kdW (jW c len j)))]) h1 := by
    by_cases p3 : jS c len j = 3
    · rw [p3, if_pos (show iI 3 = 3 from rfl), X11_kindOf_c, J1.2.2.2.2.1, J1.2.2.2.2.2, kd_t J1.1.2.2.2 (jB_le j) p3]
      exact e_X11_readHead_57 ..
    · have wn : jW c len j = none := by
        cases w : jW c len j with
        | none => rfl
        | some w' => exact absurd (jW_3 J1 w) p3
      rw [if_neg (jS_n3 p3), wn]
      rfl
  rw [kd, e_X11_readHead_61]
  by_cases q2 : kdW (jW c len j) < 0
  · rw [if_pos q2, if_pos (c := iI (kdW (jW c len j)) < 0) ((ii_lt (b := 0) (by omega)).mpr q2), e_X11_readHead_72, show mx_C mm_X11_pass [.ref 47, .int 0] h1 = _ from X11_pass_f J1]
    refine RhO_f ?_ MdX_r R1.2.2.1
    refine Eq.trans (e_X11_readHead_75 (s0 := iI 0) ..) ?_
    rw [if_pos (show iI 0 = 0 from rfl)]
    rfl
  rw [if_neg q2, if_neg (c := iI (kdW (jW c len j)) < 0) (fun z => q2 ((ii_lt (b := 0) (by omega)).mp z)), e_X11_readHead_72]
  obtain ⟨h2, a2, J2, F2⟩ := X11_pass_t J1 (x := 1) (by decide)
  rw [a2]
  have R2 := RdM_n R1 F2 J2
  have g60 : h2.1 60 fs.length = iI 0 := (F2.1 60 _ (by omega)).trans g60
  have g61 : h2.1 61 fs.length = iI 0 := (F2.1 61 _ (by omega)).trans g61
  refine RhO_t (MdX_n F2) (F2.1 47 7 (by decide)) ?_
  refine Eq.subst (motive := fun X => RhO c len s fs n ts h2 _ X) (e_X11_readHead_75 (s0 := iI 1) ..).symm ?_
  rw [if_neg (show ¬ iI 1 = 0 by decide)]
  dsimp only
  have k35 : kdW (jW c len j) = 35 ↔ jW c len j = some 10 := by
    cases w : jW c len j with
    | none => exact ⟨fun z => absurd z (by decide), fun z => by cases z⟩
    | some w' =>
      have wl := jW_lt w
      unfold kdW
      dsimp only
      by_cases z : w' = 10
      · rw [if_pos z, z]; exact ⟨fun _ => rfl, fun _ => rfl⟩
      · rw [if_neg z]
        constructor
        · intro y; split at y <;> omega
        · intro y; injection y with y; exact absurd y z
  have k4 : 4 ≤ kdW (jW c len j) := by
    cases w : jW c len j with
    | none => rw [w] at q2; exact absurd (by decide) q2
    | some w' =>
      rw [w] at q2
      unfold kdW at q2 ⊢
      dsimp only at q2 ⊢
      split
      · omega
      · split
        · omega
        · rename_i z1 z2; rw [if_neg z1, if_neg z2] at q2; omega
  by_cases q3 : jW c len j = some 10
  rotate_left
  · rw [if_neg q3, if_neg (show ¬ iI (kdW (jW c len j)) = 35 from fun z => q3 (k35.mp ((ii_eq (b := 35) (by omega) (by decide)).mp z))), e_X11_readHead_154]
    obtain ⟨h7, b1, b2, b3, b4⟩ := X11_push_c (k := kdW (jW c len j)) (p := 0) (q := 0) (j0 := j0) (L := []) R2 hf (by omega) g60 g61 (fun z => absurd (k35.mp z) q3)
    rw [b1]
    exact ⟨h7, e_X11_readHead_160 .., b2, b3, b4⟩
  rw [if_pos q3, if_pos (show iI (kdW (jW c len j)) = 35 by rw [k35.mpr q3]; rfl), k35.mpr q3]
  have s2 : h2.1 47 2 = iI (jS c len (j + 1)) := J2.2.2.2.1
  rw [s2]
  have f126 : ∀ (h' : mx_H), mx_D (8, mm_X11_readHead, 126, [.ref 47, .int (iI ((jB c len j0 : Int))), .int (iI (35))], []) h' = some (some (.int (iI (0))), h') := by
    intro h'
    rw [e_X11_readHead_126]
    rfl
  by_cases q4 : jO c len (j + 1) 40 = true
  rotate_left
  · rw [if_pos q4, if_neg (jS_n1 (fun z => q4 (jS_1.mp z))), e_X11_readHead_100, show mx_C mm_X11_pass [.ref 47, .int 0] h2 = _ from X11_pass_f J2]
    refine RhO_f ?_ MdX_r R2.2.2.1
    refine Eq.trans (e_X11_readHead_103 (s0 := iI 0) ..) ?_
    rw [if_pos (show iI 0 = 0 from rfl), f126]
  rw [if_neg (fun z => z q4), jS_1.mpr q4, if_pos (show iI 1 = 1 from rfl), e_X11_readHead_100]
  obtain ⟨h3, a3, J3, F3⟩ := X11_pass_t J2 (x := 1) (by decide)
  rw [a3]
  have R3 := RdM_n R2 F3 J3
  have g60 : h3.1 60 fs.length = iI 0 := (F3.1 60 _ (by omega)).trans g60
  have g61 : h3.1 61 fs.length = iI 0 := (F3.1 61 _ (by omega)).trans g61
  refine RhO_t (MdX_n F3) (F3.1 47 7 (by decide)) ?_
  refine Eq.subst (motive := fun X => RhO c len s fs n ts h3 _ X) (e_X11_readHead_103 (s0 := iI 1) ..).symm ?_
  have s3 : h3.1 47 2 = iI (jS c len (j + 2)) := J3.2.2.2.1
  dsimp only
  rw [if_neg (show ¬ iI 1 = 0 by decide), s3]
  by_cases q5 : jO c len (j + 2) 40 = true
  rotate_left
  · rw [if_pos q5, if_neg (jS_n1 (fun z => q5 (jS_1.mp z))), e_X11_readHead_120, show mx_C mm_X11_pass [.ref 47, .int 0] h3 = _ from X11_pass_f J3]
    refine RhO_f ?_ MdX_r R3.2.2.1
    refine Eq.trans (e_X11_readHead_123 (s0 := iI 0) ..) ?_
    rw [if_pos (show iI 0 = 0 from rfl), f126]
  rw [if_neg (fun z => z q5), jS_1.mpr q5, if_pos (show iI 1 = 1 from rfl), e_X11_readHead_120]
  obtain ⟨h4, a4, J4, F4⟩ := X11_pass_t J3 (x := 1) (by decide)
  rw [a4]
  have R4 := RdM_n R3 F4 J4
  have g60 : h4.1 60 fs.length = iI 0 := (F4.1 60 _ (by omega)).trans g60
  have g61 : h4.1 61 fs.length = iI 0 := (F4.1 61 _ (by omega)).trans g61
  refine RhO_t (MdX_n F4) (F4.1 47 7 (by decide)) ?_
  refine Eq.subst (motive := fun X => RhO c len s fs n ts h4 _ X) (e_X11_readHead_123 (s0 := iI 1) ..).symm ?_
  dsimp only
  rw [if_neg (show ¬ iI 1 = 0 by decide), R4.2.2.2.1, if_pos din, dn]
  -- the name's pack
  have X5 : MdX fs.length h4 (h4.1, mx_u h4.2.1 62 fs.length (h4.2.1 47 5), h4.2.2) := by
    refine ⟨fun _ _ _ => rfl, fun _ _ _ _ _ _ _ _ _ => rfl, fun _ _ _ _ _ _ => rfl, fun _ _ => rfl, fun a k z1 z2 => ?_, rfl⟩
    dsimp only [mx_u]
    rw [if_neg (by omega)]
  have R5 : RdM c len s fs (j + 3) n ts (h4.1, mx_u h4.2.1 62 fs.length (h4.2.1 47 5), h4.2.2) := by
    obtain ⟨⟨T, t1, t2, t3, t4, t5⟩, S, T', dd, F⟩ := R4
    exact ⟨⟨T, t1, t2, t3, by dsimp only; rw [mu_c _ _ _ _ (by decide)]; exact t4, by dsimp only; rw [mu_c _ _ _ _ (by decide)]; exact t5⟩, ScopeM_x X5 S, T', dd, FrM_x X5 fs (Nat.le_refl _) F⟩
  have g62 : (h4.1, mx_u h4.2.1 62 fs.length (h4.2.1 47 5), h4.2.2).2.1 62 fs.length = loL (tsL c len (jB c len (j + 3))) := by
    dsimp only
    rw [mu_s]
    exact J4.2.2.2.2.1
  have x7 : (h4.1, mx_u h4.2.1 62 fs.length (h4.2.1 47 5), h4.2.2).1 47 7 = h4.1 47 7 := rfl
  have g60 : (h4.1, mx_u h4.2.1 62 fs.length (h4.2.1 47 5), h4.2.2).1 60 fs.length = iI 0 := g60
  have g61 : (h4.1, mx_u h4.2.1 62 fs.length (h4.2.1 47 5), h4.2.2).1 61 fs.length = iI 0 := g61
  generalize (h4.1, mx_u h4.2.1 62 fs.length (h4.2.1 47 5), h4.2.2) = h5 at R5 X5 g62 x7 g60 g61
  refine RhO_t X5 x7 ?_
  rw [X11_isName_c R5.1]
  refine Eq.subst (motive := fun X => RhO c len s fs n ts h5 _ X) (e_X11_readHead_146 (s1 := bI (decide (jN c len (j + 3) ≠ 0))) ..).symm ?_
  rcases psc (jN c len (j + 3) ≠ 0) R5.1 (bI (decide (jN c len (j + 3) ≠ 0))) (fun z => by rw [decide_eq_true z]; decide) (fun z => by rw [decide_eq_false z]; rfl) with ⟨q6, h6, a6, J6, F6⟩ | ⟨q6, a6⟩
  rotate_left
  · rw [if_pos (Decidable.byContradiction q6), a6]
    refine RhO_f ?_ MdX_r R5.2.2.1
    refine Eq.trans (e_X11_readHead_149 (s0 := iI 0) ..) ?_
    rw [if_pos (show iI 0 = 0 from rfl)]
    rfl
  rw [if_neg q6, a6]
  have R6 := RdM_n R5 F6 J6
  have v := (jN_v R5.1.1.2.2.2).mp q6
  have h3s : jS c len (j + 3) = 3 := by
    have jl := jB_le (c := c) (len := len) (j + 3)
    have tb := tE_b (c := c) jl
    have lL : (jL c len (j + 3)).length = tE c len (jB c len (j + 3)) - jB c len (j + 3) := tkL_len _ _ _
    have b1 : jB c len (j + 3) < len := by
      apply Decidable.byContradiction
      intro x
      have : tE c len (jB c len (j + 3)) = jB c len (j + 3) := by unfold tE; rw [if_neg x]
      have := v.1
      omega
    have fl := v.2.2.1 ((c (jB c len (j + 3))).toNat) (by
      unfold jL tkL
      refine List.mem_map.mpr ⟨0, List.mem_range.mpr ?_, by rw [Nat.add_zero]; rfl⟩
      have := v.1
      show 0 < tE c len (jB c len (j + 3)) - jB c len (j + 3)
      omega)
    rw [Int.toNat_of_nonneg (by have := R5.1.1.2.2.2 _ b1; omega)] at fl
    have := of_decide_eq_true fl
    refine (tso_3 jl).mpr ⟨b1, decide_eq_true (by omega), ?_⟩
    have := v.2.1
    omega
  have tl : tsL c len (jB c len (j + 3)) = jL c len (j + 3) := tsL_3 (jB_le _) h3s
  obtain ⟨h7, b1, b2, b3, b4⟩ := X11_push_c (k := 35) (p := 0) (q := 0) (j0 := j0) (L := jL c len (j + 3)) R6 hf (by decide) ((F6.1 60 _ (by omega)).trans g60) ((F6.1 61 _ (by omega)).trans g61) (fun _ => ⟨by rw [F6.2.1 62 _ (by omega), g62, tl], v⟩)
  refine ⟨h7, ?_, b2, MdX_t (Nat.le_refl _) (MdX_n F6) b3, b4.trans (F6.1 47 7 (by decide))⟩
  refine Eq.trans (e_X11_readHead_149 (s0 := iI 1) ..) ?_
  rw [if_neg (show ¬ iI 1 = 0 by decide), e_X11_readHead_154, b1]
  exact e_X11_readHead_160 ..
end HD
