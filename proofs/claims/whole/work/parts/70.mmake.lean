/-! the reference's terms -/
def SlotM (m : Tm) (t : Nat) (f : Nat → Nat → Int32) : Prop := f 49 t = iI (tk m) ∧ f 50 t = iI (tS m) ∧ f 51 t = iI (tx m) ∧ f 52 t = iI (ty m) ∧ f 53 t = iI (tz m) ∧ f 54 t = iI (tp m) ∧ f 55 t = iI (tq m)
def TermM (n : Nat) (ts : Nat → Tm) (f : Nat → Nat → Int32) : Prop := f 47 9 = iI (n : Int) ∧ n ≤ 130 ∧ ∀ t, t < n → SlotM (ts t) t f ∧ shp (ts t)
theorem TermM_e {n : Nat} {ts : Nat → Tm} {f f' : Nat → Nat → Int32} (h1 : f' 47 9 = f 47 9) (h2 : ∀ a k, 49 ≤ a → a ≤ 55 → f' a k = f a k) (T : TermM n ts f) : TermM n ts f' := by
  obtain ⟨a1, a2, a3⟩ := T
  refine ⟨by rw [h1]; exact a1, a2, fun t ht => ?_⟩
  obtain ⟨⟨b1, b2, b3, b4, b5, b6, b7⟩, d⟩ := a3 t ht
  exact ⟨⟨by rw [h2 _ _ (by decide) (by decide)]; exact b1, by rw [h2 _ _ (by decide) (by decide)]; exact b2, by rw [h2 _ _ (by decide) (by decide)]; exact b3, by rw [h2 _ _ (by decide) (by decide)]; exact b4, by rw [h2 _ _ (by decide) (by decide)]; exact b5, by rw [h2 _ _ (by decide) (by decide)]; exact b6, by rw [h2 _ _ (by decide) (by decide)]; exact b7⟩, d⟩
theorem fnd_s {ts : Nat → Tm} {m : Tm} : ∀ (d i : Nat), fnd ts m (d + 1) i = (fnd ts m d i).or (if tmE (ts (i + d)) m = true then some (i + d) else none) := by
  intro d
  induction d with
  | zero =>
    intro i
    show (if tmE (ts i) m = true then some i else none) = _
    rw [Nat.add_zero]
    rfl
  | succ d ih =>
    intro i
    have e : fnd ts m (d + 1 + 1) i = if tmE (ts i) m = true then some i else fnd ts m (d + 1) (i + 1) := rfl
    have e' : fnd ts m (d + 1) i = if tmE (ts i) m = true then some i else fnd ts m d (i + 1) := rfl
    rw [e, e']
    by_cases q : tmE (ts i) m = true
    · rw [if_pos q, if_pos q]; rfl
    · rw [if_neg q, if_neg q, ih (i + 1), show i + 1 + d = i + (d + 1) by omega]
def fdI (o : Option Nat) : Int := match o with
  | some t => (t : Int)
  | none => -1
section MK
variable {n : Nat} {ts : Nat → Tm} {h : mx_H}
theorem X11_make_6 {m : Tm} (T : TermM n ts h.1) (hd : ∀ t u, t < u → u < n → ts t ≠ ts u) (hm : shp m) (hE : ∀ t, t < n → tk (ts t) = tk m → tS (ts t) = tS m → tx (ts t) = tx m → ty (ts t) = ty m → tz (ts t) = tz m → tp (ts t) = tp m → tq (ts t) = tq m → ts t = m) : ∀ (d i : Nat) (v10 : Value), i + d = n → ∃ v, mx_D (1, mm_X11_make, 6, [.ref 47, .int (iI (tk m)), .int (iI (tS m)), .int (iI (tx m)), .int (iI (ty m)), .int (iI (tz m)), .int (iI (tp m)), .int (iI (tq m)), .int (iI (fdI (fnd ts m i 0))), .int (iI ((i : Int))), v10], []) h = mx_D (1, mm_X11_make, 6, [.ref 47, .int (iI (tk m)), .int (iI (tS m)), .int (iI (tx m)), .int (iI (ty m)), .int (iI (tz m)), .int (iI (tp m)), .int (iI (tq m)), .int (iI (fdI (fnd ts m n 0))), .int (iI ((n : Int))), v], []) h := by
  obtain ⟨T1, T2, T3⟩ := T
  obtain ⟨m1, m2, m3, m4, m5, m6, m7, m8, m9, m10, m11, _⟩ := hm
  intro d
  induction d with
  | zero =>
    intro i v10 hi
    have hi' : i = n := by omega
    subst hi'
    exact ⟨v10, rfl⟩
  | succ d ih =>
    intro i v10 hi
    obtain ⟨⟨b1, b2, b3, b4, b5, b6, b7⟩, sh⟩ := T3 i (by omega)
    obtain ⟨s1, s2, s3, s4, s5, s6, s7, s8, s9, s10, s11, _⟩ := sh
    rw [e_X11_make_6]
    have fs := fnd_s (ts := ts) (m := m) i 0
    rw [Nat.zero_add] at fs
    have go : ∀ (g : Bool), (tmE (ts i) m = g) → ∃ v, mx_D (1, mm_X11_make, 101, [.ref 47, .int (iI (tk m)), .int (iI (tS m)), .int (iI (tx m)), .int (iI (ty m)), .int (iI (tz m)), .int (iI (tp m)), .int (iI (tq m)), .int (iI (fdI (fnd ts m i 0))), .int (iI ((i : Int))), v10], [.int (bI g)]) h = mx_D (1, mm_X11_make, 6, [.ref 47, .int (iI (tk m)), .int (iI (tS m)), .int (iI (tx m)), .int (iI (ty m)), .int (iI (tz m)), .int (iI (tp m)), .int (iI (tq m)), .int (iI (fdI (fnd ts m n 0))), .int (iI ((n : Int))), v], []) h := by
      intro g hg
      obtain ⟨v, e⟩ := ih (i + 1) (.int (bI g)) (by omega)
      refine ⟨v, ?_⟩
      rw [e_X11_make_101]
      cases g with
      | true =>
        have nf : fnd ts m i 0 = none := by
          cases q : fnd ts m i 0 with
          | none => rfl
          | some t =>
            have b := fnd_b _ _ _ q
            exact absurd (b.2.2.trans (tmE_e hg).symm) (hd t i (by omega) (by omega))
        rw [if_neg (show ¬ bI true = 0 by decide), e_X11_make_115, ii_s1]
        rw [hg, if_pos rfl, nf] at fs
        rw [fs] at e
        exact e
      | false =>
        rw [if_pos (show bI false = 0 from rfl), e_X11_make_115, ii_s1]
        rw [hg, if_neg (by decide), Option.or_none] at fs
        rw [fs] at e
        exact e
    by_cases q : ts i = m
    · have g1 := go true (tmE_t q)
      have e1 : tk (ts i) = tk m := by rw [q]
      have e2 : tS (ts i) = tS m := by rw [q]
      have e3 : tx (ts i) = tx m := by rw [q]
      have e4 : ty (ts i) = ty m := by rw [q]
      have e5 : tz (ts i) = tz m := by rw [q]
      have e6 : tp (ts i) = tp m := by rw [q]
      have e7 : tq (ts i) = tq m := by rw [q]
      simp (disch := omega) only [↓reduceIte, ii_lit, ii_add, ii_sub, ii_mul, ii_neg, ii_lt_t, ii_lt_f, ii_le_t, ii_le_f, ii_eq_t, ii_eq_f, ii_in, ii_cl, ii_shr, ii_shl, ii_and1, ii_and255, Option.bind_some, Option.toList, List.cons_append, List.nil_append, Int.toNat_natCast, mu_s, mu_c, mu_k, bI_i0, bI_i1, bI_n, nb_0, nb_1, bI_ft, bI_ff, Bool.false_eq_true, reduceCtorEq, Bool.true_eq_false, decide_true, decide_false, eq_self, Int.reduceAdd, Int.reduceSub, Int.reduceMul, Int.reduceNeg, Int.reduceToNat, tn30, tn31, tn32, tn20, tn21, T1, b1, b2, b3, b4, b5, b6, b7]
      simp (disch := omega) only [↓reduceIte, ii_lit, ii_add, ii_sub, ii_mul, ii_neg, ii_lt_t, ii_lt_f, ii_le_t, ii_le_f, ii_eq_t, ii_eq_f, ii_in, ii_cl, ii_shr, ii_shl, ii_and1, ii_and255, Option.bind_some, Option.toList, List.cons_append, List.nil_append, Int.toNat_natCast, mu_s, mu_c, mu_k, bI_i0, bI_i1, bI_n, nb_0, nb_1, bI_ft, bI_ff, Bool.false_eq_true, reduceCtorEq, Bool.true_eq_false, decide_true, decide_false, eq_self, Int.reduceAdd, Int.reduceSub, Int.reduceMul, Int.reduceNeg, Int.reduceToNat, tn30, tn31, tn32, tn20, tn21, T1, b1, b2, b3, b4, b5, b6, b7] at g1
      exact g1
    · have g1 := go false (tmE_f q)
      have f100 : mx_D (1, mm_X11_make, 100, [.ref 47, .int (iI (tk m)), .int (iI (tS m)), .int (iI (tx m)), .int (iI (ty m)), .int (iI (tz m)), .int (iI (tp m)), .int (iI (tq m)), .int (iI (fdI (fnd ts m i 0))), .int (iI ((i : Int))), v10], []) h = mx_D (1, mm_X11_make, 101, [.ref 47, .int (iI (tk m)), .int (iI (tS m)), .int (iI (tx m)), .int (iI (ty m)), .int (iI (tz m)), .int (iI (tp m)), .int (iI (tq m)), .int (iI (fdI (fnd ts m i 0))), .int (iI ((i : Int))), v10], [.int (bI false)]) h := e_X11_make_100 ..
      rw [← f100] at g1
      by_cases p1 : tk (ts i) = tk m
      rotate_left
      · simp (disch := omega) only [↓reduceIte, ii_lit, ii_add, ii_sub, ii_mul, ii_neg, ii_lt_t, ii_lt_f, ii_le_t, ii_le_f, ii_eq_t, ii_eq_f, ii_in, ii_cl, ii_shr, ii_shl, ii_and1, ii_and255, Option.bind_some, Option.toList, List.cons_append, List.nil_append, Int.toNat_natCast, mu_s, mu_c, mu_k, bI_i0, bI_i1, bI_n, nb_0, nb_1, bI_ft, bI_ff, Bool.false_eq_true, reduceCtorEq, Bool.true_eq_false, decide_true, decide_false, eq_self, Int.reduceAdd, Int.reduceSub, Int.reduceMul, Int.reduceNeg, Int.reduceToNat, tn30, tn31, tn32, tn20, tn21, T1, b1]
        exact g1
      by_cases p2 : tS (ts i) = tS m
      rotate_left
      · simp (disch := omega) only [↓reduceIte, ii_lit, ii_add, ii_sub, ii_mul, ii_neg, ii_lt_t, ii_lt_f, ii_le_t, ii_le_f, ii_eq_t, ii_eq_f, ii_in, ii_cl, ii_shr, ii_shl, ii_and1, ii_and255, Option.bind_some, Option.toList, List.cons_append, List.nil_append, Int.toNat_natCast, mu_s, mu_c, mu_k, bI_i0, bI_i1, bI_n, nb_0, nb_1, bI_ft, bI_ff, Bool.false_eq_true, reduceCtorEq, Bool.true_eq_false, decide_true, decide_false, eq_self, Int.reduceAdd, Int.reduceSub, Int.reduceMul, Int.reduceNeg, Int.reduceToNat, tn30, tn31, tn32, tn20, tn21, T1, b1, b2]
        exact g1
      by_cases p3 : tx (ts i) = tx m
      rotate_left
      · simp (disch := omega) only [↓reduceIte, ii_lit, ii_add, ii_sub, ii_mul, ii_neg, ii_lt_t, ii_lt_f, ii_le_t, ii_le_f, ii_eq_t, ii_eq_f, ii_in, ii_cl, ii_shr, ii_shl, ii_and1, ii_and255, Option.bind_some, Option.toList, List.cons_append, List.nil_append, Int.toNat_natCast, mu_s, mu_c, mu_k, bI_i0, bI_i1, bI_n, nb_0, nb_1, bI_ft, bI_ff, Bool.false_eq_true, reduceCtorEq, Bool.true_eq_false, decide_true, decide_false, eq_self, Int.reduceAdd, Int.reduceSub, Int.reduceMul, Int.reduceNeg, Int.reduceToNat, tn30, tn31, tn32, tn20, tn21, T1, b1, b2, b3]
        exact g1
      by_cases p4 : ty (ts i) = ty m
      rotate_left
      · simp (disch := omega) only [↓reduceIte, ii_lit, ii_add, ii_sub, ii_mul, ii_neg, ii_lt_t, ii_lt_f, ii_le_t, ii_le_f, ii_eq_t, ii_eq_f, ii_in, ii_cl, ii_shr, ii_shl, ii_and1, ii_and255, Option.bind_some, Option.toList, List.cons_append, List.nil_append, Int.toNat_natCast, mu_s, mu_c, mu_k, bI_i0, bI_i1, bI_n, nb_0, nb_1, bI_ft, bI_ff, Bool.false_eq_true, reduceCtorEq, Bool.true_eq_false, decide_true, decide_false, eq_self, Int.reduceAdd, Int.reduceSub, Int.reduceMul, Int.reduceNeg, Int.reduceToNat, tn30, tn31, tn32, tn20, tn21, T1, b1, b2, b3, b4]
        exact g1
      by_cases p5 : tz (ts i) = tz m
      rotate_left
      · simp (disch := omega) only [↓reduceIte, ii_lit, ii_add, ii_sub, ii_mul, ii_neg, ii_lt_t, ii_lt_f, ii_le_t, ii_le_f, ii_eq_t, ii_eq_f, ii_in, ii_cl, ii_shr, ii_shl, ii_and1, ii_and255, Option.bind_some, Option.toList, List.cons_append, List.nil_append, Int.toNat_natCast, mu_s, mu_c, mu_k, bI_i0, bI_i1, bI_n, nb_0, nb_1, bI_ft, bI_ff, Bool.false_eq_true, reduceCtorEq, Bool.true_eq_false, decide_true, decide_false, eq_self, Int.reduceAdd, Int.reduceSub, Int.reduceMul, Int.reduceNeg, Int.reduceToNat, tn30, tn31, tn32, tn20, tn21, T1, b1, b2, b3, b4, b5]
        exact g1
      by_cases p6 : tp (ts i) = tp m
      rotate_left
      · simp (disch := omega) only [↓reduceIte, ii_lit, ii_add, ii_sub, ii_mul, ii_neg, ii_lt_t, ii_lt_f, ii_le_t, ii_le_f, ii_eq_t, ii_eq_f, ii_in, ii_cl, ii_shr, ii_shl, ii_and1, ii_and255, Option.bind_some, Option.toList, List.cons_append, List.nil_append, Int.toNat_natCast, mu_s, mu_c, mu_k, bI_i0, bI_i1, bI_n, nb_0, nb_1, bI_ft, bI_ff, Bool.false_eq_true, reduceCtorEq, Bool.true_eq_false, decide_true, decide_false, eq_self, Int.reduceAdd, Int.reduceSub, Int.reduceMul, Int.reduceNeg, Int.reduceToNat, tn30, tn31, tn32, tn20, tn21, T1, b1, b2, b3, b4, b5, b6]
        exact g1
      by_cases p7 : tq (ts i) = tq m
      rotate_left
      · simp (disch := omega) only [↓reduceIte, ii_lit, ii_add, ii_sub, ii_mul, ii_neg, ii_lt_t, ii_lt_f, ii_le_t, ii_le_f, ii_eq_t, ii_eq_f, ii_in, ii_cl, ii_shr, ii_shl, ii_and1, ii_and255, Option.bind_some, Option.toList, List.cons_append, List.nil_append, Int.toNat_natCast, mu_s, mu_c, mu_k, bI_i0, bI_i1, bI_n, nb_0, nb_1, bI_ft, bI_ff, Bool.false_eq_true, reduceCtorEq, Bool.true_eq_false, decide_true, decide_false, eq_self, Int.reduceAdd, Int.reduceSub, Int.reduceMul, Int.reduceNeg, Int.reduceToNat, tn30, tn31, tn32, tn20, tn21, T1, b1, b2, b3, b4, b5, b6, b7]
        exact g1
      exact absurd (hE i (by omega) p1 p2 p3 p4 p5 p6 p7) q
def MkF (n : Nat) (h h' : mx_H) : Prop := (∀ a k, (a ≠ 47 ∨ k ≠ 9) → ¬ (49 ≤ a ∧ a ≤ 55 ∧ k = n) → h'.1 a k = h.1 a k) ∧ h'.2 = h.2
theorem X11_make_c {m : Tm} (T : TermM n ts h.1) (hn : n < 130) (hd : ∀ t u, t < u → u < n → ts t ≠ ts u) (hm : shp m) (hE : ∀ t, t < n → tk (ts t) = tk m → tS (ts t) = tS m → tx (ts t) = tx m → ty (ts t) = ty m → tz (ts t) = tz m → tp (ts t) = tp m → tq (ts t) = tq m → ts t = m) : ∃ h', mx_C mm_X11_make [.ref 47, .int (iI (tk m)), .int (iI (tS m)), .int (iI (tx m)), .int (iI (ty m)), .int (iI (tz m)), .int (iI (tp m)), .int (iI (tq m))] h = some (some (.int (iI ((mkI n ts m : Int)))), h') ∧ TermM (mkN n ts m) (mkT n ts m) h'.1 ∧ MkF n h h' := by
  obtain ⟨v, e⟩ := X11_make_6 T hd hm hE n 0 mx_junk (Nat.zero_add _)
  obtain ⟨T1, T2, T3⟩ := T
  have st : mx_C mm_X11_make [.ref 47, .int (iI (tk m)), .int (iI (tS m)), .int (iI (tx m)), .int (iI (ty m)), .int (iI (tz m)), .int (iI (tp m)), .int (iI (tq m))] h = mx_D (1, mm_X11_make, 6, [.ref 47, .int (iI (tk m)), .int (iI (tS m)), .int (iI (tx m)), .int (iI (ty m)), .int (iI (tz m)), .int (iI (tp m)), .int (iI (tq m)), .int (iI (fdI (fnd ts m n 0))), .int (iI ((n : Int))), v], []) h := by
    rw [c_X11_make, e_X11_make_0]
    exact e
  rw [st, e_X11_make_6]
  unfold mkI mkN
  cases q : fnd ts m n 0 with
  | some t =>
    have b := fnd_b _ _ _ q
    refine ⟨h, ?_, ?_, fun _ _ _ _ => rfl, rfl⟩
    · unfold fdI
      dsimp only
      simp (disch := omega) only [↓reduceIte, ii_lit, ii_add, ii_sub, ii_mul, ii_neg, ii_lt_t, ii_lt_f, ii_le_t, ii_le_f, ii_eq_t, ii_eq_f, ii_in, ii_cl, ii_shr, ii_shl, ii_and1, ii_and255, Option.bind_some, Option.toList, List.cons_append, List.nil_append, Int.toNat_natCast, mu_s, mu_c, mu_k, bI_i0, bI_i1, bI_n, nb_0, nb_1, bI_ft, bI_ff, Bool.false_eq_true, reduceCtorEq, Bool.true_eq_false, decide_true, decide_false, eq_self, Int.reduceAdd, Int.reduceSub, Int.reduceMul, Int.reduceNeg, Int.reduceToNat, tn30, tn31, tn32, tn20, tn21, T1]
      rfl
    · simp only [Option.isSome, if_true]
      refine ⟨T1, T2, fun u hu => ?_⟩
      rw [mt_old hu]
      exact T3 u hu
  | none =>
    have wr : ∀ a k, mx_u (mx_u (mx_u (mx_u (mx_u (mx_u (mx_u (mx_u h.1 49 n (iI (tk m))) 50 n (iI (tS m))) 51 n (iI (tx m))) 52 n (iI (ty m))) 53 n (iI (tz m))) 54 n (iI (tp m))) 55 n (iI (tq m))) 47 9 (iI ((n : Int) + 1)) a k = (if a = 47 ∧ k = 9 then iI ((n : Int) + 1) else if a = 55 ∧ k = n then iI (tq m) else if a = 54 ∧ k = n then iI (tp m) else if a = 53 ∧ k = n then iI (tz m) else if a = 52 ∧ k = n then iI (ty m) else if a = 51 ∧ k = n then iI (tx m) else if a = 50 ∧ k = n then iI (tS m) else if a = 49 ∧ k = n then iI (tk m) else h.1 a k) := fun a k => rfl
    refine ⟨(mx_u (mx_u (mx_u (mx_u (mx_u (mx_u (mx_u (mx_u h.1 49 n (iI (tk m))) 50 n (iI (tS m))) 51 n (iI (tx m))) 52 n (iI (ty m))) 53 n (iI (tz m))) 54 n (iI (tp m))) 55 n (iI (tq m))) 47 9 (iI ((n : Int) + 1)), h.2.1, h.2.2), ?_, ?_, ?_, rfl⟩
    · unfold fdI
      dsimp only
      simp (disch := omega) only [↓reduceIte, ii_lit, ii_add, ii_sub, ii_mul, ii_neg, ii_lt_t, ii_lt_f, ii_le_t, ii_le_f, ii_eq_t, ii_eq_f, ii_in, ii_cl, ii_shr, ii_shl, ii_and1, ii_and255, Option.bind_some, Option.toList, List.cons_append, List.nil_append, Int.toNat_natCast, mu_s, mu_c, mu_k, bI_i0, bI_i1, bI_n, nb_0, nb_1, bI_ft, bI_ff, Bool.false_eq_true, reduceCtorEq, Bool.true_eq_false, decide_true, decide_false, eq_self, Int.reduceAdd, Int.reduceSub, Int.reduceMul, Int.reduceNeg, Int.reduceToNat, tn30, tn31, tn32, tn20, tn21, T1]
      have z : ((n : Int) + 1 - 1) = n := by omega
      rw [z]
      rfl
    · simp only [Option.isSome, Bool.false_eq_true, if_false]
      refine ⟨by rw [wr, if_pos ⟨rfl, rfl⟩]; rfl, by omega, fun u hu => ?_⟩
      by_cases z : u = n
      · subst z
        rw [mt_new]
        refine ⟨⟨?_, ?_, ?_, ?_, ?_, ?_, ?_⟩, hm⟩
        all_goals
          rw [wr]
          simp only [Nat.reduceEqDiff, false_and, and_true, if_false, if_true]
      · rw [mt_old (by omega)]
        obtain ⟨⟨b1, b2, b3, b4, b5, b6, b7⟩, sh⟩ := T3 u (by omega)
        refine ⟨⟨?_, ?_, ?_, ?_, ?_, ?_, ?_⟩, sh⟩
        all_goals
          rw [wr]
          simp only [z, and_false, Nat.reduceEqDiff, false_and, if_false]
          assumption
    · intro a k z1 z2
      dsimp only
      rw [wr, if_neg (by omega), if_neg (by omega), if_neg (by omega), if_neg (by omega), if_neg (by omega), if_neg (by omega), if_neg (by omega), if_neg (by omega)]
end MK
