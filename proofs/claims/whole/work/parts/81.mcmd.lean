/-! the reference's small methods behind a command -/
def off (s : Sc) (ts : Nat → Tm) : Nat → Int
  | 0 => 0
  | i + 1 => off s ts i + bitsS (tS (ts (sCt s i)))
section MC
variable {c : Nat → Int} {len j n : Nat} {s : Sc} {ts : Nat → Tm} {h : mx_H}
theorem X11_bitsOf_c {so : Int} (h : mx_H) (hs : 0 ≤ so ∧ so ≤ 8) : mx_C mm_X11_bitsOf [.int (iI (so))] h = some (some (.int (iI (bitsS so))), h) := by
  rw [c_X11_bitsOf, e_X11_bitsOf_0]
  unfold bitsS
  by_cases q0 : so = 0
  · rw [if_pos q0]
    simp (disch := omega) only [↓reduceIte, ii_lit, ii_add, ii_sub, ii_mul, ii_neg, ii_lt_t, ii_lt_f, ii_le_t, ii_le_f, ii_eq_t, ii_eq_f, ii_in, ii_cl, ii_shr, ii_shl, ii_and1, ii_and255, Option.bind_some, Option.toList, List.cons_append, List.nil_append, Int.toNat_natCast, mu_s, mu_c, mu_k, bI_i0, bI_i1, bI_n, nb_0, nb_1, bI_ft, bI_ff, Bool.false_eq_true, reduceCtorEq, Bool.true_eq_false, decide_true, decide_false, eq_self, Int.reduceAdd, Int.reduceSub, Int.reduceMul, Int.reduceNeg, Int.reduceToNat, tn30, tn31, tn32, tn20, tn21, e_X11_bitsOf_22]
  · rw [if_neg q0]
    by_cases q1 : 4 < so
    · rw [if_pos q1]
      simp (disch := omega) only [↓reduceIte, ii_lit, ii_add, ii_sub, ii_mul, ii_neg, ii_lt_t, ii_lt_f, ii_le_t, ii_le_f, ii_eq_t, ii_eq_f, ii_in, ii_cl, ii_shr, ii_shl, ii_and1, ii_and255, Option.bind_some, Option.toList, List.cons_append, List.nil_append, Int.toNat_natCast, mu_s, mu_c, mu_k, bI_i0, bI_i1, bI_n, nb_0, nb_1, bI_ft, bI_ff, Bool.false_eq_true, reduceCtorEq, Bool.true_eq_false, decide_true, decide_false, eq_self, Int.reduceAdd, Int.reduceSub, Int.reduceMul, Int.reduceNeg, Int.reduceToNat, tn30, tn31, tn32, tn20, tn21, e_X11_bitsOf_22]
    · rw [if_neg q1]
      simp (disch := omega) only [↓reduceIte, ii_lit, ii_add, ii_sub, ii_mul, ii_neg, ii_lt_t, ii_lt_f, ii_le_t, ii_le_f, ii_eq_t, ii_eq_f, ii_in, ii_cl, ii_shr, ii_shl, ii_and1, ii_and255, Option.bind_some, Option.toList, List.cons_append, List.nil_append, Int.toNat_natCast, mu_s, mu_c, mu_k, bI_i0, bI_i1, bI_n, nb_0, nb_1, bI_ft, bI_ff, Bool.false_eq_true, reduceCtorEq, Bool.true_eq_false, decide_true, decide_false, eq_self, Int.reduceAdd, Int.reduceSub, Int.reduceMul, Int.reduceNeg, Int.reduceToNat, tn30, tn31, tn32, tn20, tn21, e_X11_bitsOf_22]
theorem off_b (ts : Nat → Tm) (hs : ∀ i, i < sNc s → 0 ≤ tS (ts (sCt s i)) ∧ tS (ts (sCt s i)) ≤ 8) : ∀ i, i ≤ sNc s → (i : Int) ≤ off s ts i ∧ off s ts i ≤ 8 * i := by
  intro i
  induction i with
  | zero => intro _; exact ⟨Int.le_refl _, Int.le_refl _⟩
  | succ i ih =>
    intro hi
    have := ih (by omega)
    have b := bitsS_b (hs i (by omega))
    unfold off
    omega
theorem X11_allBits_4 (S : ScopeM s h) (T : TermM n ts h.1) (hB : sNc s ≤ 8) (hc : ∀ i, i < sNc s → sCt s i < n) : ∀ (d i : Nat), i + d = sNc s → mx_D (2, mm_X11_allBits, 4, [.ref 47, .int (iI (off s ts i)), .int (iI ((i : Int)))], []) h = some (some (.int (iI (off s ts (sNc s)))), h) := by
  have T2 := T.2.1
  intro d
  induction d with
  | zero =>
    intro i hi
    have hi' : i = sNc s := by omega
    rw [e_X11_allBits_4, S.1, hi', if_pos ((ii_le (by omega)).mpr (by omega))]
  | succ d ih =>
    intro i hi
    obtain ⟨n1, n2⟩ := S.2.2.2.1 i (by omega)
    have cl := hc i (by omega)
    obtain ⟨⟨u1, u2, _⟩, ush⟩ := T.2.2 _ cl
    rw [e_X11_allBits_4, S.1, if_neg (fun z => by have := (ii_le (by omega)).mp z; omega), if_pos (in_t (a := (i : Int)) (n := 12) (by omega)), ii_cl (by omega), Int.toNat_natCast, n2, if_pos (in_t (n := 130) (by omega)), ii_cl (by omega), Int.toNat_natCast, u2, X11_bitsOf_c h ush.2.1]
    refine Eq.trans (e_X11_allBits_27 ..) ?_
    rw [ii_add, ii_s1]
    exact ih (i + 1) (by omega)
theorem X11_allBits_c (S : ScopeM s h) (T : TermM n ts h.1) (hB : sNc s ≤ 8) (hc : ∀ i, i < sNc s → sCt s i < n) : mx_C mm_X11_allBits [.ref 47] h = some (some (.int (iI (off s ts (sNc s)))), h) := by
  rw [c_X11_allBits, e_X11_allBits_0]
  exact X11_allBits_4 S T hB hc (sNc s) 0 (Nat.zero_add _)
theorem X11_tooMany_4 (T : TermM n ts h.1) : ∀ (d i : Nat), i + d = n → mx_D (2, mm_X11_tooMany, 4, [.ref 47, .int (iI ((hv ts i : Int))), .int (iI ((i : Int)))], []) h = some (some (.int (bI (decide (60 < n ∨ 2 < hv ts n)))), h) := by
  obtain ⟨T1, T2, T3⟩ := T
  intro d
  induction d with
  | zero =>
    intro i hi
    have hi' : i = n := by omega
    subst hi'
    have hb := hv_le ts i
    rw [e_X11_tooMany_4]
    by_cases q : 60 < i
    · have e : decide (60 < i ∨ 2 < hv ts i) = true := decide_eq_true (Or.inl q)
      simp (disch := omega) only [↓reduceIte, ii_lit, ii_add, ii_sub, ii_mul, ii_neg, ii_lt_t, ii_lt_f, ii_le_t, ii_le_f, ii_eq_t, ii_eq_f, ii_in, ii_cl, ii_shr, ii_shl, ii_and1, ii_and255, Option.bind_some, Option.toList, List.cons_append, List.nil_append, Int.toNat_natCast, mu_s, mu_c, mu_k, bI_i0, bI_i1, bI_n, nb_0, nb_1, bI_ft, bI_ff, Bool.false_eq_true, reduceCtorEq, Bool.true_eq_false, decide_true, decide_false, eq_self, Int.reduceAdd, Int.reduceSub, Int.reduceMul, Int.reduceNeg, Int.reduceToNat, tn30, tn31, tn32, tn20, tn21, T1, e, e_X11_tooMany_56, e_X11_tooMany_61]
    · by_cases q2 : 2 < hv ts i
      · have e : decide (60 < i ∨ 2 < hv ts i) = true := decide_eq_true (Or.inr q2)
        simp (disch := omega) only [↓reduceIte, ii_lit, ii_add, ii_sub, ii_mul, ii_neg, ii_lt_t, ii_lt_f, ii_le_t, ii_le_f, ii_eq_t, ii_eq_f, ii_in, ii_cl, ii_shr, ii_shl, ii_and1, ii_and255, Option.bind_some, Option.toList, List.cons_append, List.nil_append, Int.toNat_natCast, mu_s, mu_c, mu_k, bI_i0, bI_i1, bI_n, nb_0, nb_1, bI_ft, bI_ff, Bool.false_eq_true, reduceCtorEq, Bool.true_eq_false, decide_true, decide_false, eq_self, Int.reduceAdd, Int.reduceSub, Int.reduceMul, Int.reduceNeg, Int.reduceToNat, tn30, tn31, tn32, tn20, tn21, T1, e, e_X11_tooMany_56, e_X11_tooMany_61]
      · have e : decide (60 < i ∨ 2 < hv ts i) = false := decide_eq_false (by omega)
        simp (disch := omega) only [↓reduceIte, ii_lit, ii_add, ii_sub, ii_mul, ii_neg, ii_lt_t, ii_lt_f, ii_le_t, ii_le_f, ii_eq_t, ii_eq_f, ii_in, ii_cl, ii_shr, ii_shl, ii_and1, ii_and255, Option.bind_some, Option.toList, List.cons_append, List.nil_append, Int.toNat_natCast, mu_s, mu_c, mu_k, bI_i0, bI_i1, bI_n, nb_0, nb_1, bI_ft, bI_ff, Bool.false_eq_true, reduceCtorEq, Bool.true_eq_false, decide_true, decide_false, eq_self, Int.reduceAdd, Int.reduceSub, Int.reduceMul, Int.reduceNeg, Int.reduceToNat, tn30, tn31, tn32, tn20, tn21, T1, e, e_X11_tooMany_56, e_X11_tooMany_61]
  | succ d ih =>
    intro i hi
    obtain ⟨⟨u1, _⟩, ush⟩ := T3 i (by omega)
    have kb := ush.1
    have hb := hv_le ts i
    have nx := ih (i + 1) (by omega)
    rw [e_X11_tooMany_4, T1, if_neg (fun z => by have := (ii_le (by omega)).mp z; omega), if_pos (in_t (a := (i : Int)) (n := 130) (by omega)), ii_cl (by omega), Int.toNat_natCast, u1, show mx_C mm_X11_in [.int (iI (tk (ts i))), .int 19, .int 21] h = _ from X11_in_c (b := 19) (c := 21) h ⟨by omega, by decide, by decide⟩]
    refine Eq.trans (e_X11_tooMany_25 ..) ?_
    have hs : hv ts (i + 1) = hv ts i + if 19 ≤ tk (ts i) ∧ tk (ts i) ≤ 21 then 1 else 0 := rfl
    by_cases q : 19 ≤ tk (ts i) ∧ tk (ts i) ≤ 21
    · rw [decide_eq_true q, if_neg (show ¬ bI true = 0 by decide), e_X11_tooMany_35, ii_s1, ii_s1]
      rw [hs, if_pos q] at nx
      exact nx
    · rw [decide_eq_false q, if_pos (show bI false = 0 from rfl), e_X11_tooMany_35, ii_s1]
      rw [hs, if_neg q, Nat.add_zero] at nx
      exact nx
theorem X11_tooMany_c (T : TermM n ts h.1) : mx_C mm_X11_tooMany [.ref 47] h = some (some (.int (bI (decide (60 < n ∨ 2 < hv ts n)))), h) := by
  rw [c_X11_tooMany, e_X11_tooMany_0]
  exact X11_tooMany_4 T n 0 (Nat.zero_add _)
theorem lkC_iff {L : List Nat} : lkC s L ≠ -1 ↔ ∃ i, i < sNc s ∧ sNm s i = L := by
  constructor
  · intro q
    rcases lkF_m (s := s) (L := L) (sNc s) 0 with z | ⟨k, a, b, x, y⟩
    · exact absurd z q
    · exact ⟨k, by omega, x⟩
  · intro ⟨i, hi, e⟩
    have key : ∀ (d j : Nat), j ≤ i → i < j + d → lkF s L d j ≠ -1 := by
      intro d
      induction d with
      | zero => intro j h1 h2; omega
      | succ d ih =>
        intro j h1 h2
        unfold lkF
        by_cases q : sNm s j = L
        · rw [if_pos q]; omega
        · rw [if_neg q]
          have : j ≠ i := fun z => q (by rw [z]; exact e)
          exact ih (j + 1) (by omega) (by omega)
    exact key (sNc s) 0 (by omega) (by omega)
theorem X11_isConstant_4 (J : TkJ c len j h) (h3 : jS c len j = 3) (hl : (jL c len j).length ≤ 8) (S : ScopeM s h) (H : NmS s) (hB : sNc s ≤ 8) : ∀ (d i : Nat) (g : Bool), i + d = sNc s → mx_D (1, mm_X11_isConstant, 4, [.ref 47, .int (bI g), .int (iI ((i : Int)))], []) h = some (some (.int (bI (g || decide (∃ k, k < d ∧ sNm s (i + k) = jL c len j)))), h) := by
  have tl : tsL c len (jB c len j) = jL c len j := tsL_3 (jB_le _) h3
  have h6 : h.2.1 47 6 = 0 := by rw [J.2.2.2.2.2, tl]; exact hi4 hl
  intro d
  induction d with
  | zero =>
    intro i g hi
    have hi' : i = sNc s := by omega
    rw [e_X11_isConstant_4, S.1, hi', if_pos ((ii_le (by omega)).mpr (by omega)), decide_eq_false (fun ⟨k, hk, _⟩ => absurd hk (Nat.not_lt_zero k)), Bool.or_false]
    cases g with
    | true => exact if_pos rfl
    | false => exact if_pos rfl
  | succ d ih =>
    intro i g hi
    obtain ⟨n1, n2⟩ := S.2.2.2.1 i (by omega)
    have cm := nm_cmp J h3 (H.1 i (by omega))
    rw [e_X11_isConstant_4, S.1, if_neg (fun z => by have := (ii_le (by omega)).mp z; omega)]
    have ex : (∃ k, k < d + 1 ∧ sNm s (i + k) = jL c len j) ↔ (sNm s i = jL c len j ∨ ∃ k, k < d ∧ sNm s (i + 1 + k) = jL c len j) := by
      constructor
      · intro ⟨k, hk, e⟩
        cases k with
        | zero => exact Or.inl e
        | succ k => exact Or.inr ⟨k, by omega, by rw [show i + 1 + k = i + (k + 1) by omega]; exact e⟩
      · intro z
        rcases z with z | ⟨k, hk, e⟩
        · exact ⟨0, by omega, z⟩
        · exact ⟨k + 1, by omega, by rw [show i + (k + 1) = i + 1 + k by omega]; exact e⟩
    have st35 : ∀ g', mx_D (1, mm_X11_isConstant, 35, [.ref 47, .int (bI g), .int (iI ((i : Int)))], [.int (bI g')]) h = some (some (.int (bI (g' || decide (∃ k, k < d ∧ sNm s (i + 1 + k) = jL c len j)))), h) := by
      intro g'
      rw [e_X11_isConstant_35, ii_s1]
      exact ih (i + 1) g' (by omega)
    have f30 : mx_D (1, mm_X11_isConstant, 30, [.ref 47, .int (bI g), .int (iI ((i : Int)))], []) h = some (some (.int (bI true)), h) := by
      rw [e_X11_isConstant_30]
      have := st35 true
      rw [Bool.true_or] at this
      exact this
    cases g with
    | true =>
      rw [if_neg (show ¬ bI true = 0 by decide), f30, Bool.true_or]
    | false =>
      rw [if_pos (show bI false = 0 from rfl), if_pos (in_t (a := (i : Int)) (n := 12) (by omega)), ii_cl (by omega), Int.toNat_natCast, n1]
      simp only [lg0]
      rw [Bool.false_or]
      by_cases q : sNm s i = jL c len j
      · rw [if_pos (cm.mpr q).1, f30, decide_eq_true (ex.mpr (Or.inl q))]
      · rw [if_neg (fun z => q (cm.mp ⟨z, h6⟩))]
        refine Eq.trans (st35 false) ?_
        rw [Bool.false_or]
        have : decide (∃ k, k < d ∧ sNm s (i + 1 + k) = jL c len j) = decide (∃ k, k < d + 1 ∧ sNm s (i + k) = jL c len j) := decide_eq_decide.mpr (by rw [ex]; exact ⟨Or.inr, fun z => z.elim (fun y => absurd y q) id⟩)
        rw [this]
theorem X11_isConstant_c (J : TkJ c len j h) (h3 : jS c len j = 3) (hl : (jL c len j).length ≤ 8) (S : ScopeM s h) (H : NmS s) (hB : sNc s ≤ 8) : mx_C mm_X11_isConstant [.ref 47] h = some (some (.int (bI (decide (lkC s (jL c len j) ≠ -1)))), h) := by
  rw [c_X11_isConstant, e_X11_isConstant_0]
  refine Eq.trans (X11_isConstant_4 J h3 hl S H hB (sNc s) 0 false (Nat.zero_add _)) ?_
  rw [Bool.false_or]
  have : decide (∃ k, k < sNc s ∧ sNm s (0 + k) = jL c len j) = decide (lkC s (jL c len j) ≠ -1) := decide_eq_decide.mpr (by rw [lkC_iff]; simp only [Nat.zero_add])
  rw [this]
/-- the end of a command in the reference -/
theorem X11_ends_c (J : TkJ c len j h) : (jO c len j 41 = true → jB c len (j + 1) = len → ∃ h', mx_C mm_X11_ends [.ref 47] h = some (some (.int (iI (1))), h') ∧ TkJ c len (j + 1) h' ∧ NxF h h') ∧ (∀ e, ((¬ jO c len j 41 = true ∧ e = j) ∨ (jO c len j 41 = true ∧ ¬ jB c len (j + 1) = len ∧ e = j + 1)) → ∃ h', mx_C mm_X11_ends [.ref 47] h = some (some (.int (iI (0))), h') ∧ h'.1 47 7 = iI (jB c len e : Int) ∧ NxB h h') := by
  have s0 : h.1 47 2 = iI (jS c len j) := J.2.2.2.1
  rw [c_X11_ends, e_X11_ends_0, s0]
  refine ⟨fun q1 q2 => ?_, fun e he => ?_⟩
  · obtain ⟨h1, a1, J1, F1⟩ := X11_pass_t J (x := 1) (by decide)
    have s1 : h1.1 47 2 = iI (jS c len (j + 1)) := J1.2.2.2.1
    refine ⟨h1, ?_, J1, F1⟩
    rw [jS_2.mpr q1, if_pos (show iI 2 = 2 from rfl), e_X11_ends_14, a1]
    refine Eq.trans (e_X11_ends_17 (s0 := iI 1) ..) ?_
    dsimp only
    rw [if_neg (show ¬ iI 1 = 0 by decide), s1, jS_0.mpr q2, if_pos (show iI 0 = 0 from rfl)]
    rfl
  · rcases he with ⟨q1, rfl⟩ | ⟨q1, q2, rfl⟩
    · refine ⟨_, ?_, by dsimp only; exact mu_s _ _ _ _, NxB_7⟩
      rw [if_neg (jS_n2 (fun z => q1 (jS_2.mp z))), e_X11_ends_14, show mx_C mm_X11_pass [.ref 47, .int 0] h = _ from X11_pass_f J]
      refine Eq.trans (e_X11_ends_17 (s0 := iI 0) ..) ?_
      rw [if_pos (show iI 0 = 0 from rfl)]
      rfl
    · obtain ⟨h1, a1, J1, F1⟩ := X11_pass_t J (x := 1) (by decide)
      have s1 : h1.1 47 2 = iI (jS c len (j + 1)) := J1.2.2.2.1
      refine ⟨(mx_u h1.1 47 7 (iI (jB c len (j + 1) : Int)), h1.2.1, h1.2.2), ?_, by dsimp only; exact mu_s _ _ _ _, NxB_t (NxB_n F1) NxB_7⟩
      rw [jS_2.mpr q1, if_pos (show iI 2 = 2 from rfl), e_X11_ends_14, a1]
      refine Eq.trans (e_X11_ends_17 (s0 := iI 1) ..) ?_
      dsimp only
      rw [if_neg (show ¬ iI 1 = 0 by decide), s1, if_neg (jS_n0 (fun z => q2 (jS_0.mp z))), J1.2.1, X11_wrong_c]
      exact (e_X11_ends_37 ..).trans (if_pos rfl)
end MC
