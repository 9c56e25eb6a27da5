/-! the class's readAtom -/
theorem ii_s1 (j : Nat) : iI (j : Int) + 1 = iI ((j + 1 : Nat) : Int) := ii_add (j : Int) 1
theorem rk_l {m : mx_M} {as : List Value} {rk : Nat} (h5 : 5 ≤ rk) (hm : m.2.1 = false) (h1 : m.1 < 5) : mx_rank m as < rk := by
  unfold mx_rank
  simp only [hm]
  omega
def RdO (c : Nat → Int) (len N : Nat) (s : Sc) (lets : List (List Nat × Nat)) (L : Nat) (h : mx_H) (n : Nat) (ts : Nat → Tm) (r : Rd) (X : Option mx_O) : Prop := match r with
  | .inr (t, j', n', ts') => ∃ h', X = some (some (.int (iI ((t : Int)))), h') ∧ RdC c len N s lets j' n' ts' h' ∧ RdX L lets.length h h'
  | .inl e => ∃ h', X = some (some (.int (iI (-1))), h') ∧ h'.1 18 4 = iI (e : Int) ∧ e < 2000 ∧ (∃ n' ts', TermC n' ts' h'.1 h'.2.2 ∧ n ≤ n' ∧ ∀ i, i < n → ts' i = ts i) ∧ RdX L lets.length h h'
theorem RdO_f {c : Nat → Int} {len N : Nat} {s : Sc} {lets : List (List Nat × Nat)} {L : Nat} {h h' : mx_H} {n n' : Nat} {ts ts' : Nat → Tm} {e j' : Nat} {X : Option mx_O} (hX : X = some (some (.int (iI (-1))), (mx_u h'.1 18 4 (iI (e : Int)), h'.2.1, h'.2.2))) (he : e < 2000) (R : RdC c len N s lets j' n' ts' h') (hn : n ≤ n') (ho : ∀ i, i < n → ts' i = ts i) (Y : RdX L lets.length h h') : RdO c len N s lets L h n ts (.inl e) X :=
  ⟨_, hX, by dsimp only; exact mu_s _ _ _ _, he, ⟨n', ts', TermC_18 (by decide) R.2.2.2.1, hn, ho⟩, RdX_t (Nat.le_refl _) (Nat.le_refl _) Y RdX_4⟩
theorem mk_lit {n L d : Nat} {ts : Nat → Tm} {m : Tm} {h : mx_H} (T : TermC n ts h.1 h.2.2) (hn : n < 180) (hs : shp m) (h0 : tk m ≠ 0) (hx : cp (tx m) = 0) (hy : cp (ty m) = 0) (hz : cp (tz m) = 0) : ∃ h1 h2, mx_C mm_X7_prepare [.ref 6, mx_rf (some (1000 + wk (tk m))), .int (iI (cn1 m)), .int (iI (cn2 m)), .int (iI (tS m))] h = some (none, h1) ∧ mx_C mm_X7_make [.ref 6] h1 = some (some (.int (iI ((mkI n ts m : Int)))), h2) ∧ TermC (mkN n ts m) (mkT n ts m) h2.1 h2.2.2 ∧ RdX L d h h2 ∧ h2.1 18 3 = h.1 18 3 := by
  have T' := TermC_pr (i := iI (cn1 m)) (j := iI (cn2 m)) (s := iI (tS m)) (o := some (1000 + wk (tk m))) T
  have M := X7_make_c (h := (prF h.1 n (iI (cn1 m)) (iI (cn2 m)) (iI (tS m)), h.2.1, mx_u h.2.2 7 n (some (1000 + wk (tk m))))) T' hn (SlotC_pr hx hy hz) hs h0
  refine ⟨_, _, X7_prepare_c T.1 hn (wk_lt hs.1), M.1, M.2, ?_, ?_⟩
  · refine ⟨fun b k p1 p2 p3 p4 p5 p6 p7 p8 => ?_, fun k p => ?_, fun k _ _ => ?_, fun k _ => ?_, fun k _ => ⟨?_, ?_⟩, rfl, fun a p => ?_⟩
    · dsimp only; rw [mu_c _ _ _ _ p1, prF_o (by omega)]
    · dsimp only; rw [mu_k _ _ p, prF_o (by omega)]
    · dsimp only; rw [mu_c _ _ _ _ (by decide), prF_o (by omega)]
    · dsimp only; rw [mu_c _ _ _ _ (by decide), prF_o (by omega)]
    · dsimp only; rw [mu_c _ _ _ _ (by decide), prF_o (by omega)]
    · dsimp only; rw [mu_c _ _ _ _ (by decide), prF_o (by omega)]
    · dsimp only; exact mu_f _ _ _ p
  · dsimp only; rw [mu_c _ _ _ _ (by decide), prF_o (by omega)]
section RC
variable {c : Nat → Int} {len N : Nat} {s : Sc} {A : Nat → Prop} {lets : List (List Nat × Nat)} {j n L : Nat} {ts : Nat → Tm} {h : mx_H}
theorem Pre_n (P : Pre c len s A lets j n ts) : n ≤ 100 := by
  have := P.2.1
  have := P.2.2.2
  have := jB_le (c := c) (len := len) j
  omega
theorem X4_readAtom_c (B : ScB s) (R : RdC c len N s lets j n ts h) (P : Pre c len s A lets j n ts) (hj : j < 1000) (hl : lets.length ≤ 8) : RdO c len N s lets L h n ts (rdA c len s lets j n ts) (mx_C mm_X4_readAtom [.ref 18] h) := by
  have R0 := RdC_3 (j + 1) R
  have X0 : RdX L lets.length h (mx_u h.1 18 3 (iI ((j + 1 : Nat) : Int)), h.2.1, h.2.2) := RdX_3
  have n1 := Pre_n P
  have st : mx_C mm_X4_readAtom [.ref 18] h = mx_D (4, mm_X4_readAtom, 23, [.ref 18, .int (iI ((j : Int))), mx_junk, mx_junk, mx_junk, mx_junk], [mx_rf (wRf (jW c len j))]) (mx_u h.1 18 3 (iI ((j + 1 : Nat) : Int)), h.2.1, h.2.2) := by
    rw [c_X4_readAtom, e_X4_readAtom_0, R.2.2.2.2.1, ii_s1]
    rw [X8_wordAt_c (j := j) R0.2.1 (by omega)]
    rfl
  rw [st]
  generalize (mx_u h.1 18 3 (iI ((j + 1 : Nat) : Int)), h.2.1, h.2.2) = h0 at R0 X0
  rw [e_X4_readAtom_23 _ _ _ rf_wj]
  have lit : ∀ (m : Tm) (v2 : Option Nat) , shp m → tk m ≠ 0 → cp (tx m) = 0 → cp (ty m) = 0 → cp (tz m) = 0 → ∃ h1 h2, mx_C mm_X7_prepare [.ref 6, mx_rf (some (1000 + wk (tk m))), .int (iI (cn1 m)), .int (iI (cn2 m)), .int (iI (tS m))] h0 = some (none, h1) ∧ mx_C mm_X7_make [.ref 6] h1 = some (some (.int (iI ((mkI n ts m : Int)))), h2) ∧ ∀ X, X = some (some (.int (iI ((mkI n ts m : Int)))), h2) → RdO c len N s lets L h n ts (mkR n ts m (j + 1)) X := by
    intro m v2 a1 a2 a3 a4 a5
    obtain ⟨h1, h2, b1, b2, b3, b4, b5⟩ := mk_lit (L := L) (d := lets.length) R0.2.2.2.1 (by omega) a1 a2 a3 a4 a5
    refine ⟨h1, h2, b1, b2, fun X hX => ⟨h2, hX, RdC_x R0 b4 (Nat.le_refl _) b3 ?_, RdX_t (Nat.le_refl _) (Nat.le_refl _) X0 b4⟩⟩
    rw [b5]; exact R0.2.2.2.2.1
  have fail : ∀ X, X = some (some (.int (iI (-1))), (mx_u h0.1 18 4 (iI (j : Int)), h0.2.1, h0.2.2)) → RdO c len N s lets L h n ts (.inl j) X := fun X hX => RdO_f hX (by omega) R0 (Nat.le_refl _) (fun _ _ => rfl) X0
  unfold rdA
  by_cases q1 : jW c len j = some 8
  · rw [if_pos q1, if_pos (c := (mx_rf (wRf (jW c len j)) : Value) = .ref 1008) ((rf_is 8 rfl).mpr q1), q1]
    obtain ⟨h1, h2, b1, b2, b3⟩ := lit mTru none (by unfold shp; decide) (by decide) rfl rfl rfl
    refine b3 _ ?_
    rw [e_X4_readAtom_38]
    refine Eq.trans (congrArg (fun x => Option.bind x _) b1) ?_
    refine Eq.trans (e_X4_readAtom_49 _ _ _) ?_
    rw [b2]
    exact e_X4_readAtom_56 _ _ _ _
  rw [if_neg q1, if_neg (c := (mx_rf (wRf (jW c len j)) : Value) = .ref 1008) (fun z => q1 ((rf_is 8 rfl).mp z))]
  by_cases q2 : jW c len j = some 9
  · rw [if_pos q2, if_pos (c := (mx_rf (wRf (jW c len j)) : Value) = .ref 1009) ((rf_is 9 rfl).mpr q2), q2]
    obtain ⟨h1, h2, b1, b2, b3⟩ := lit mFal none (by unfold shp; decide) (by decide) rfl rfl rfl
    refine b3 _ ?_
    rw [e_X4_readAtom_38]
    refine Eq.trans (congrArg (fun x => Option.bind x _) b1) ?_
    refine Eq.trans (e_X4_readAtom_49 _ _ _) ?_
    rw [b2]
    exact e_X4_readAtom_56 _ _ _ _
  rw [if_neg q2, if_neg (c := (mx_rf (wRf (jW c len j)) : Value) = .ref 1009) (fun z => q2 ((rf_is 9 rfl).mp z))]
  rw [X8_widthAt_c R0.2.1 R0.1 (by omega)]
  refine Eq.subst (motive := fun X => RdO c len N s lets L h n ts _ X) (e_X4_readAtom_65 _ (wRf (jW c len j)) (iI ((jD c len j : Nat) : Int)) h0).symm ?_
  by_cases q3 : 0 < jD c len j
  · have d := jD_l q3
    have p16 : jV c len j < 16 := by
      have : jD c len j = 1 ∨ jD c len j = 2 ∨ jD c len j = 3 ∨ jD c len j = 4 := by omega
      have v := d.2.2.2.2.1
      rcases this with z | z | z | z <;> (rw [z] at v; exact Int.lt_of_lt_of_le v (by decide))
    obtain ⟨h1, h2, b1, b2, b3⟩ := lit (mBit (jD c len j) (jV c len j)) none (by
      unfold shp mBit
      dsimp only [tk, tS, tx, ty, tz, tp, tq, to]
      refine ⟨by omega, by omega, by omega, by omega, by omega, by decide, by decide, by decide, by omega, by omega, by omega, fun _ => rfl, by omega, fun _ => rfl⟩) (fun z => absurd (show (3 : Int) = 0 from z) (by decide)) rfl rfl rfl
    rw [if_pos q3]
    refine b3 _ ?_
    have lt : ¬ iI ((jD c len j : Nat) : Int) ≤ 0 := by
      intro z
      have : (iI ((jD c len j : Nat) : Int) ≤ iI 0) = False := ii_le_f (by omega)
      exact this ▸ z
    rw [if_neg lt, X8_bitsAt_c (w := jD c len j) R0.2.1 R0.1 (by omega) (by have := d.2.1; unfold jE jB at this; omega)]
    refine Eq.trans (e_X4_readAtom_86 _ _ _ _ _) ?_
    refine Eq.trans (congrArg (fun x => Option.bind x _) b1) ?_
    refine Eq.trans (e_X4_readAtom_91 _ _ _ _) ?_
    rw [b2]
    exact e_X4_readAtom_98 _ _ _ _ _
  have d0 : jD c len j = 0 := by omega
  rw [if_neg q3, d0]
  rw [if_pos (show iI ((0 : Nat) : Int) ≤ 0 from by decide), X8_nameAt_c R0.2.1 R0.1 (by omega)]
  refine Eq.subst (motive := fun X => RdO c len N s lets L h n ts _ X) (e_X4_readAtom_107 _ (wRf (jW c len j)) _ (iI (jN c len j)) h0).symm ?_
  by_cases q4 : jN c len j = 0
  · rw [if_pos q4]
    refine fail _ ?_
    rw [q4, if_pos (show iI 0 = 0 from rfl), e_X4_readAtom_124]
    simp (disch := omega) only [↓reduceIte, ii_lit, ii_add, ii_sub, ii_mul, ii_neg, ii_lt_t, ii_lt_f, ii_le_t, ii_le_f, ii_eq_t, ii_eq_f, ii_in, ii_cl, ii_shr, ii_shl, ii_and1, ii_and255, Option.bind_some, Option.toList, List.cons_append, List.nil_append, Int.toNat_natCast, mu_s, mu_c, mu_k, bI_i0, bI_i1, bI_n, nb_0, nb_1, bI_ft, bI_ff, Bool.false_eq_true, reduceCtorEq, Bool.true_eq_false, decide_true, decide_false, eq_self, Int.reduceAdd, Int.reduceSub, Int.reduceMul, Int.reduceNeg, Int.reduceToNat, tn30, tn31, tn32, tn20, tn21, X4_noTermAt_c, e_X4_readAtom_137, e_X4_readAtom_142]
  have nl := jN_l q4
  have nb := beL_b nl.1
  rw [if_neg q4]
  rw [if_neg (show ¬ iI (jN c len j) = 0 from fun z => (by rw [nl.2.1] at z; have := (ii_eq (by omega) (by omega)).mp (z.trans (show (0 : Int32) = iI 0 from rfl)); omega))]
  rw [nl.2.1, X4_meaningOf_c R0 B nl.1 hl]
  refine Eq.subst (motive := fun X => RdO c len N s lets L h n ts _ X) (e_X4_readAtom_124 _ (wRf (jW c len j)) _ _ (iI (mng s lets (jL c len j))) h0).symm ?_
  by_cases q5 : mng s lets (jL c len j) = -1
  · rw [if_pos q5, q5]
    refine fail _ ?_
    simp (disch := omega) only [↓reduceIte, ii_lit, ii_add, ii_sub, ii_mul, ii_neg, ii_lt_t, ii_lt_f, ii_le_t, ii_le_f, ii_eq_t, ii_eq_f, ii_in, ii_cl, ii_shr, ii_shl, ii_and1, ii_and255, Option.bind_some, Option.toList, List.cons_append, List.nil_append, Int.toNat_natCast, mu_s, mu_c, mu_k, bI_i0, bI_i1, bI_n, nb_0, nb_1, bI_ft, bI_ff, Bool.false_eq_true, reduceCtorEq, Bool.true_eq_false, decide_true, decide_false, eq_self, Int.reduceAdd, Int.reduceSub, Int.reduceMul, Int.reduceNeg, Int.reduceToNat, tn30, tn31, tn32, tn20, tn21, X4_noTermAt_c, e_X4_readAtom_137, e_X4_readAtom_142]
  · rw [if_neg q5]
    rcases mng_m (L := jL c len j) lets P.2.2.1 with z | ⟨t, x, y⟩
    · exact absurd z q5
    · have tl := al_lt y
      rw [x, Int.toNat_natCast]
      refine ⟨h0, ?_, R0, X0⟩
      simp (disch := omega) only [↓reduceIte, ii_lit, ii_add, ii_sub, ii_mul, ii_neg, ii_lt_t, ii_lt_f, ii_le_t, ii_le_f, ii_eq_t, ii_eq_f, ii_in, ii_cl, ii_shr, ii_shl, ii_and1, ii_and255, Option.bind_some, Option.toList, List.cons_append, List.nil_append, Int.toNat_natCast, mu_s, mu_c, mu_k, bI_i0, bI_i1, bI_n, nb_0, nb_1, bI_ft, bI_ff, Bool.false_eq_true, reduceCtorEq, Bool.true_eq_false, decide_true, decide_false, eq_self, Int.reduceAdd, Int.reduceSub, Int.reduceMul, Int.reduceNeg, Int.reduceToNat, tn30, tn31, tn32, tn20, tn21, X4_noTermAt_c, e_X4_readAtom_137, e_X4_readAtom_142]
end RC
