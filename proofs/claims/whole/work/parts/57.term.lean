/-! the class's readLet, readNumbered, readTerm -/
theorem rk_L {L : Nat} (h : L < 2000) : mx_rank mm_X4_readLet [.ref 18, .int (iI ((L : Int)))] = 6 + 3 * (9 - L) := by
  have e : (iI (L : Int)).toNatClampNeg = L := by rw [ii_cl (by omega)]; exact Int.toNat_natCast L
  show 6 + 3 * (9 - (iI (L : Int)).toNatClampNeg) = _
  rw [e]
theorem rk_N {L : Nat} (h : L < 2000) : mx_rank mm_X4_readNumbered [.ref 18, .int (iI ((L : Int)))] = 6 + 3 * (9 - L) := by
  have e : (iI (L : Int)).toNatClampNeg = L := by rw [ii_cl (by omega)]; exact Int.toNat_natCast L
  show 6 + 3 * (9 - (iI (L : Int)).toNatClampNeg) = _
  rw [e]
section RC
variable {c : Nat → Int} {len N : Nat} {s : Sc} {A : Nat → Prop} {lets : List (List Nat × Nat)}
theorem jB_m (j : Nat) : jB c len j ≤ jB c len (j + 1) := by
  unfold jB
  have := tE_b (c := c) (tB_le (c := c) (len := len) j)
  exact Nat.le_trans this.1 (tB_s j)
/-- a bracket, read or missed -/
theorem brk {j n L : Nat} {ts : Nat → Tm} {h : mx_H} (ch : Int) (R : RdC c len N s lets j n ts h) (hj : j < 2000) (hc : i32 ch) : (jO c len j ch = true ∧ ∃ h', mx_C mm_X4_bracket [.ref 18, .int (iI (ch))] h = some (some (.int (iI (1))), h') ∧ RdC c len N s lets (j + 1) n ts h' ∧ RdX L lets.length h h') ∨ (¬ jO c len j ch = true ∧ mx_C mm_X4_bracket [.ref 18, .int (iI (ch))] h = some (some (.int (iI (0))), (mx_u h.1 18 4 (iI (j : Int)), h.2.1, h.2.2))) := by
  by_cases q : jO c len j ch = true
  · exact Or.inl ⟨q, _, X4_bracket_t R hj hc q, RdC_3 (j + 1) R, RdX_3⟩
  · exact Or.inr ⟨q, X4_bracket_f R hj hc q⟩
theorem X4_readLet_c {L f j n : Nat} {ts : Nat → Tm} {h : mx_H} (I : IHT c len N s A (L + 1) f) (hL : 1 ≤ L ∧ L ≤ 8) (hl : lets.length + 1 ≤ L) (R : RdC c len N s lets j n ts h) (P : Pre c len s A lets j n ts) (hj : j + 1 ≤ 5 + jB c len (j + 1)) : RdO c len N s lets L h n ts (rdLet c len (rdT c len s f) lets (j + 1) n ts) (mx_C mm_X4_readLet [.ref 18, .int (iI ((L : Int)))] h) := by
  obtain ⟨rk, hrk⟩ : ∃ rk, rk = 6 + 3 * (9 - L) := ⟨_, rfl⟩
  have rl : ∀ (m : mx_M) (as : List Value), m.2.1 = false → m.1 < 5 → mx_rank m as < rk := fun m as => rk_l (by omega)
  have rT : mx_rank mm_X4_readTerm [.ref 18, .int (iI (L : Int) + 1)] < rk := by rw [ii_s1, rk_T (by omega)]; omega
  have len1 := P.2.2.2
  have jb := fun j => jB_le (c := c) (len := len) j
  have j1 := jb (j + 1)
  rw [c_X4_readLet, rk_L (by omega), ← hrk, e_X4_readLet_0 (hr0 := rl _ _ rfl (by decide)), R.2.2.2.2.1, ii_s1]
  have R1 := RdC_3 (j + 1) R
  have X1 : RdX L lets.length h (mx_u h.1 18 3 (iI ((j + 1 : Nat) : Int)), h.2.1, h.2.2) := RdX_3
  generalize (mx_u h.1 18 3 (iI ((j + 1 : Nat) : Int)), h.2.1, h.2.2) = h1 at R1 X1
  have fin28 : ∀ h', mx_D (rk, mm_X4_readLet, 16, [.ref 18, .int (iI ((L : Int))), mx_junk, mx_junk, mx_junk], [.int (iI (0))]) h' = some (some (.int (iI (-1))), h') := by
    intro h'
    rw [e_X4_readLet_16 (hr0 := rl _ _ rfl (by decide)), if_pos (show iI 0 = 0 from rfl), e_X4_readLet_28]
    rfl
  unfold rdLet
  rcases brk (L := L) 40 R1 (by omega) (by decide) with ⟨q1, h2, b1, R2, X2⟩ | ⟨q1, b1⟩
  rotate_left
  · rw [if_pos q1]
    have b1' : mx_C mm_X4_bracket [.ref 18, .int 40] h1 = _ := b1
    rw [b1']
    exact RdO_f (fin28 _) (by omega) R1 (Nat.le_refl _) (fun _ _ => rfl) X1
  rw [if_neg (fun z => z q1)]
  have b1' : mx_C mm_X4_bracket [.ref 18, .int 40] h1 = _ := b1
  rw [b1']
  have a1 := adv_O q1
  have X2' : RdX L lets.length h h2 := RdX_t (Nat.le_refl _) (Nat.le_refl _) X1 X2
  refine Eq.subst (motive := fun X => RdO c len N s lets L h n ts _ X) (e_X4_readLet_16 (hr0 := rl _ _ rfl (by decide)) ..).symm ?_
  rw [if_neg (show ¬ iI 1 = 0 by decide)]
  have j2 := jb (j + 1 + 1)
  rcases brk (L := L) 40 R2 (by omega) (by decide) with ⟨q2, h3, b2, R3, X3⟩ | ⟨q2, b2⟩
  rotate_left
  · rw [if_pos q2]
    have b2' : mx_C mm_X4_bracket [.ref 18, .int 40] h2 = _ := b2
    rw [b2']
    refine RdO_f ?_ (by omega) R2 (Nat.le_refl _) (fun _ _ => rfl) X2'
    refine Eq.trans (e_X4_readLet_25 (hr0 := rl _ _ rfl (by decide)) ..) ?_
    rw [if_pos (show iI 0 = 0 from rfl), e_X4_readLet_28]
    rfl
  rw [if_neg (fun z => z q2)]
  have b2' : mx_C mm_X4_bracket [.ref 18, .int 40] h2 = _ := b2
  rw [b2']
  have a2 := adv_O q2
  have X3' : RdX L lets.length h h3 := RdX_t (Nat.le_refl _) (Nat.le_refl _) X2' X3
  refine Eq.subst (motive := fun X => RdO c len N s lets L h n ts _ X) (e_X4_readLet_25 (hr0 := rl _ _ rfl (by decide)) ..).symm ?_
  have j3 := jb (j + 1 + 1 + 1)
  rw [if_neg (show ¬ iI 1 = 0 by decide), R3.2.2.2.2.1, X8_nameAt_c R3.2.1 R3.1 (by omega)]
  refine Eq.subst (motive := fun X => RdO c len N s lets L h n ts _ X) (e_X4_readLet_41 (s0 := iI (jN c len (j + 1 + 2))) (hr0 := rT) ..).symm ?_
  by_cases q3 : jN c len (j + 1 + 2) = 0
  · rw [if_pos q3, q3, if_pos (show iI 0 = 0 from rfl), e_X4_readLet_55 (hr0 := rl _ _ rfl (by decide)), R3.2.2.2.2.1, X4_noTermAt_c]
    refine RdO_f ?_ (by omega) R3 (Nat.le_refl _) (fun _ _ => rfl) X3'
    exact e_X4_readLet_63 ..
  have nl := jN_l q3
  have nb := beL_b nl.1
  have a3 := nl.2.2.1
  rw [if_neg q3]
  rw [if_neg (show ¬ iI (jN c len (j + 1 + 2)) = 0 from fun z => (by rw [nl.2.1] at z; have := (ii_eq (by omega) (by omega)).mp (z.trans (show (0 : Int32) = iI 0 from rfl)); omega))]
  rw [R3.2.2.2.2.2.1, if_pos (show iI (lets.length : Int) < 8 from (ii_lt (b := 8) (by omega)).mpr (by omega)), R3.2.2.2.2.1, ii_s1, ii_s1]
  have R4 := RdC_3 (j + 1 + 1 + 1 + 1) R3
  have X4' : RdX L lets.length h (mx_u h3.1 18 3 (iI ((j + 1 + 1 + 1 + 1 : Nat) : Int)), h3.2.1, h3.2.2) := RdX_t (Nat.le_refl _) (Nat.le_refl _) X3' RdX_3
  generalize (mx_u h3.1 18 3 (iI ((j + 1 + 1 + 1 + 1 : Nat) : Int)), h3.2.1, h3.2.2) = h4 at R4 X4'
  have m0 := jB_m (c := c) (len := len) j
  simp only [Nat.add_assoc, Nat.reduceAdd] at a1 a2 a3 j1 j2 j3 hj R4
  have P4 : Pre c len s A lets (j + 4) n ts := Pre_mv P (by omega)
  have O := I lets (j + 4) n ts h4 R4 P4 (by omega) (by omega)
  have K := rdT_k f lets (j + 4) n ts P4
  rw [show j + 1 + 3 = j + 4 by omega]
  cases r : rdT c len s f lets (j + 4) n ts with
  | inl e =>
    rw [r] at O
    obtain ⟨h', o1, o2, o3, o4, o5⟩ := O
    rw [o1]
    refine ⟨h', ?_, o2, o3, o4, RdX_t (L' := L + 1) (by omega) (Nat.le_refl _) X4' o5⟩
    refine Eq.trans (e_X4_readLet_81 (hr0 := rl _ _ rfl (by decide)) ..) ?_
    rw [if_pos (show iI (-1) = -1 from rfl), e_X4_readLet_105]
    rfl
  | inr x =>
    obtain ⟨t, j5, n5, ts5⟩ := x
    rw [r] at O
    obtain ⟨h5, o1, R5, o5⟩ := O
    obtain ⟨k1, k2, k3, k4, k5, k6, k7⟩ := K t j5 n5 ts5 r
    have tl := al_lt k2
    have p2 := P.2.1
    have j5b := jb j5
    have X5' : RdX L lets.length h h5 := RdX_t (L' := L + 1) (by omega) (Nat.le_refl _) X4' o5
    rw [o1]
    refine Eq.subst (motive := fun X => RdO c len N s lets L h n ts _ X) (e_X4_readLet_81 (s0 := iI (t : Int)) (hr0 := rl _ _ rfl (by decide)) ..).symm ?_
    rw [if_neg (show ¬ iI (t : Int) = -1 from fun z => (by have := (ii_eq (by omega) (by omega)).mp (z.trans (show (-1 : Int32) = iI (-1) from rfl)); omega))]
    unfold rdL2
    dsimp only
    rcases brk (L := L) 41 R5 (by omega) (by decide) with ⟨q4, h6, b4, R6, X6⟩ | ⟨q4, b4⟩
    rotate_left
    · rw [if_pos q4]
      have b4' : mx_C mm_X4_bracket [.ref 18, .int 41] h5 = _ := b4
      rw [b4']
      refine RdO_f ?_ (by omega) R5 k3 k4 X5'
      refine Eq.trans (e_X4_readLet_93 (hr0 := rl _ _ rfl (by decide)) ..) ?_
      rw [if_pos (show iI 0 = 0 from rfl), e_X4_readLet_105]
      rfl
    rw [if_neg (fun z => z q4)]
    have b4' : mx_C mm_X4_bracket [.ref 18, .int 41] h5 = _ := b4
    rw [b4']
    have a4 := adv_O q4
    have X6' : RdX L lets.length h h6 := RdX_t (Nat.le_refl _) (Nat.le_refl _) X5' X6
    refine Eq.subst (motive := fun X => RdO c len N s lets L h n ts _ X) (e_X4_readLet_93 (hr0 := rl _ _ rfl (by decide)) ..).symm ?_
    rw [if_neg (show ¬ iI 1 = 0 by decide)]
    have j6 := jb (j5 + 1)
    rcases brk (L := L) 41 R6 (by omega) (by decide) with ⟨q5, h7, b5, R7, X7⟩ | ⟨q5, b5⟩
    rotate_left
    · rw [if_pos q5]
      have b5' : mx_C mm_X4_bracket [.ref 18, .int 41] h6 = _ := b5
      rw [b5']
      refine RdO_f ?_ (by omega) R6 k3 k4 X6'
      refine Eq.trans (e_X4_readLet_102 (hr0 := rT) ..) ?_
      rw [if_pos (show iI 0 = 0 from rfl), e_X4_readLet_105]
      rfl
    rw [if_neg (fun z => z q5)]
    have b5' : mx_C mm_X4_bracket [.ref 18, .int 41] h6 = _ := b5
    rw [b5']
    have a5 := adv_O q5
    have X7' : RdX L lets.length h h7 := RdX_t (Nat.le_refl _) (Nat.le_refl _) X6' X7
    simp only [Nat.add_assoc, Nat.reduceAdd] at a4 a5 j6 R7
    refine Eq.subst (motive := fun X => RdO c len N s lets L h n ts _ X) (e_X4_readLet_102 (hr0 := rT) ..).symm ?_
    have st : (if iI 1 = 0 then mx_D (rk, mm_X4_readLet, 105, [.ref 18, .int (iI ((L : Int))), .int (iI (jN c len (j + 1 + 2))), .int (iI ((t : Int))), mx_junk], []) h7 else (if mx_in (h7.1 18 11) 8 = true then if mx_in ((mx_u h7.1 20 ((h7.1 18 11).toNatClampNeg) (iI (jN c len (j + 1 + 2)))) 18 11) 8 = true then (mx_C mm_X4_readTerm [.ref 18, .int (iI (L : Int) + 1)] ((mx_u (mx_u (mx_u h7.1 20 ((h7.1 18 11).toNatClampNeg) (iI (jN c len (j + 1 + 2)))) 21 (((mx_u h7.1 20 ((h7.1 18 11).toNatClampNeg) (iI (jN c len (j + 1 + 2)))) 18 11).toNatClampNeg) (iI (t : Int))) 18 11 (((mx_u (mx_u h7.1 20 ((h7.1 18 11).toNatClampNeg) (iI (jN c len (j + 1 + 2)))) 21 (((mx_u h7.1 20 ((h7.1 18 11).toNatClampNeg) (iI (jN c len (j + 1 + 2)))) 18 11).toNatClampNeg) (iI (t : Int))) 18 11) + 1)), h7.2.1, h7.2.2)).bind (fun o => mx_D (rk, mm_X4_readLet, 144, [.ref 18, .int (iI ((L : Int))), .int (iI (jN c len (j + 1 + 2))), .int (iI ((t : Int))), mx_junk], o.1.toList ++ []) o.2) else none else none)) = (mx_C mm_X4_readTerm [.ref 18, .int (iI (((L + 1 : Nat) : Int)))] (mx_u (mx_u (mx_u h7.1 20 lets.length (iI (jN c len (j + 1 + 2)))) 21 lets.length (iI (t : Int))) 18 11 (iI ((lets.length + 1 : Nat) : Int)), h7.2.1, h7.2.2)).bind (fun o => mx_D (rk, mm_X4_readLet, 144, [.ref 18, .int (iI ((L : Int))), .int (iI (jN c len (j + 1 + 2))), .int (iI ((t : Int))), mx_junk], o.1.toList ++ []) o.2) := by
      rw [if_neg (show ¬ iI 1 = 0 by decide)]
      have e7 := R7.2.2.2.2.2.1
      have e8 : mx_in (iI (lets.length : Int)) 8 = true := (ii_in (by omega)).mpr trivial
      have e9 : (iI (lets.length : Int)).toNatClampNeg = lets.length := by rw [ii_cl (by omega)]; exact Int.toNat_natCast _
      rw [e7, e9, mu_c _ _ _ _ (by decide), e7, e9, mu_c _ _ _ _ (by decide), mu_c _ _ _ _ (by decide), e7, if_pos e8, if_pos e8, ii_s1, ii_s1]
    refine Eq.subst (motive := fun X => RdO c len N s lets L h n ts _ X) st.symm ?_
    have T8 : TermC n5 ts5 (mx_u (mx_u (mx_u h7.1 20 lets.length (iI (jN c len (j + 1 + 2)))) 21 lets.length (iI (t : Int))) 18 11 (iI ((lets.length + 1 : Nat) : Int))) h7.2.2 := TermC_e (by rw [mu_c _ _ _ _ (by decide), mu_c _ _ _ _ (by decide), mu_c _ _ _ _ (by decide)]) (fun a k p q => by rw [mu_c _ _ _ _ (by omega), mu_c _ _ _ _ (by omega), mu_c _ _ _ _ (by omega)]) rfl R7.2.2.2.1
    have w8 : ∀ a k, a ≠ 18 → (k ≠ lets.length ∨ (a ≠ 20 ∧ a ≠ 21)) → mx_u (mx_u (mx_u h7.1 20 lets.length (iI (jN c len (j + 1 + 2)))) 21 lets.length (iI (t : Int))) 18 11 (iI ((lets.length + 1 : Nat) : Int)) a k = h7.1 a k := by
      intro a k z1 z2
      unfold mx_u
      rw [if_neg (by omega), if_neg (by omega), if_neg (by omega)]
    have w18 : ∀ k, k ≠ 11 → mx_u (mx_u (mx_u h7.1 20 lets.length (iI (jN c len (j + 1 + 2)))) 21 lets.length (iI (t : Int))) 18 11 (iI ((lets.length + 1 : Nat) : Int)) 18 k = h7.1 18 k := by
      intro k z1
      unfold mx_u
      rw [if_neg (by omega), if_neg (by omega), if_neg (by omega)]
    have l8 : ∀ r : List (List Nat × Nat), r.length ≤ lets.length → LetC r h7.1 → LetC r (mx_u (mx_u (mx_u h7.1 20 lets.length (iI (jN c len (j + 1 + 2)))) 21 lets.length (iI (t : Int))) 18 11 (iI ((lets.length + 1 : Nat) : Int))) := by
      intro r
      induction r with
      | nil => intro _ _; trivial
      | cons p r ih =>
        intro hr H
        rw [List.length_cons] at hr
        unfold LetC at H ⊢
        rw [w8 _ _ (by decide) (by omega), w8 _ _ (by decide) (by omega)]
        exact ⟨H.1, H.2.1, H.2.2.1, ih (by omega) H.2.2.2⟩
    have R8 : RdC c len N s ((jL c len (j + 1 + 2), t) :: lets) (j5 + 2) n5 ts5 (mx_u (mx_u (mx_u h7.1 20 lets.length (iI (jN c len (j + 1 + 2)))) 21 lets.length (iI (t : Int))) 18 11 (iI ((lets.length + 1 : Nat) : Int)), h7.2.1, h7.2.2) := by
      obtain ⟨r1, r2, r3, r4, r5, r6, r7⟩ := R7
      refine ⟨TxtC_e (w8 1 1 (by decide) (by omega)) (fun k => w8 2 k (by decide) (by omega)) r1, TokC_e (w8 1 5 (by decide) (by omega)) (fun k => w8 3 k (by decide) (by omega)) (fun k => w8 4 k (by decide) (by omega)) rfl r2, ScopeC_e (fun a k p q => w8 a k (by omega) (by omega)) r3, T8, (w18 3 (by decide)).trans r5, by dsimp only; rw [mu_s]; rfl, ?_, ?_, nl.1, l8 lets (Nat.le_refl _) r7⟩
      · dsimp only
        rw [mu_c _ _ _ _ (by decide), mu_c _ _ _ _ (by decide), mu_s, nl.2.1]
      · dsimp only
        rw [mu_c _ _ _ _ (by decide), mu_s]
    have W8 := w8
    have W18 := w18
    clear st w8 w18 l8 T8
    obtain ⟨h8, hh8⟩ : ∃ h8 : mx_H, h8 = (mx_u (mx_u (mx_u h7.1 20 lets.length (iI (jN c len (j + 1 + 2)))) 21 lets.length (iI (t : Int))) 18 11 (iI ((lets.length + 1 : Nat) : Int)), h7.2.1, h7.2.2) := ⟨_, rfl⟩
    have W8 : ∀ a k, a ≠ 18 → (k ≠ lets.length ∨ (a ≠ 20 ∧ a ≠ 21)) → h8.1 a k = h7.1 a k := by rw [hh8]; exact W8
    have W18 : ∀ k, k ≠ 11 → h8.1 18 k = h7.1 18 k := by rw [hh8]; exact W18
    have W2 : h8.2.1 = h7.2.1 ∧ h8.2.2 = h7.2.2 := by rw [hh8]; exact ⟨rfl, rfl⟩
    rw [← hh8] at R8 ⊢
    have A1 := AL_ext P.2.2.1 k3 k4
    have P8 : Pre c len s A ((jL c len (j + 1 + 2), t) :: lets) (j5 + 2) n5 ts5 := ⟨k1, by omega, ⟨A1.1, fun p hp => by
      rcases List.mem_cons.mp hp with z | z
      · rw [z]; exact k2
      · exact A1.2 p z⟩, P.2.2.2⟩
    have O8 := I ((jL c len (j + 1 + 2), t) :: lets) (j5 + 2) n5 ts5 h8 R8 P8 (by omega) (by rw [List.length_cons]; omega)
    have K8 := rdT_k f ((jL c len (j + 1 + 2), t) :: lets) (j5 + 2) n5 ts5 P8
    have back : ∀ h9 : mx_H, RdX (L + 1) ((jL c len (j + 1 + 2), t) :: lets).length h8 h9 → RdX L lets.length h (mx_u h9.1 18 11 (iI (lets.length : Int)), h9.2.1, h9.2.2) := by
      intro h9 Y
      refine RdX_t (Nat.le_refl _) (Nat.le_refl _) X7' ?_
      rw [List.length_cons] at Y
      obtain ⟨y1, y2, y3, y4, y5, y6, y7⟩ := Y
      refine ⟨fun b k p1 p2 p3 p4 p5 p6 p7 p8 => ?_, fun k p => ?_, fun k p q => ?_, fun k p => ?_, fun k p => ⟨?_, ?_⟩, ?_, fun a p => ?_⟩
      · dsimp only; rw [mu_c _ _ _ _ p5, y1 b k p1 p2 p3 p4 p5 p6 p7 p8, W8 b k p5 (by omega)]
      · dsimp only; rw [mu_c _ _ _ _ (by decide), y2 k p, W8 6 k (by decide) (by omega)]
      · dsimp only
        by_cases z : k = 11
        · rw [z, mu_s]; exact R7.2.2.2.2.2.1.symm
        · rw [mu_k _ _ z, y3 k p q, W18 k z]
      · dsimp only; rw [mu_c _ _ _ _ (by decide), y4 k (by omega), W8 19 k (by decide) (by omega)]
      · dsimp only; rw [mu_c _ _ _ _ (by decide), (y5 k (by omega)).1, W8 20 k (by decide) (by omega)]
      · dsimp only; rw [mu_c _ _ _ _ (by decide), (y5 k (by omega)).2, W8 21 k (by decide) (by omega)]
      · dsimp only; rw [y6, W2.1]
      · dsimp only; rw [y7 a p, W2.2]
    have e11 : iI ((lets.length + 1 : Nat) : Int) - 1 = iI (lets.length : Int) := (ii_sub _ 1).trans (congrArg iI (by omega))
    have l9 : ∀ h9 : mx_H, RdX (L + 1) ((jL c len (j + 1 + 2), t) :: lets).length h8 h9 → h9.1 18 11 = iI ((lets.length + 1 : Nat) : Int) := fun h9 Y => (Y.2.2.1 11 (by decide) (by decide)).trans R8.2.2.2.2.2.1
    cases r8 : rdT c len s f ((jL c len (j + 1 + 2), t) :: lets) (j5 + 2) n5 ts5 with
    | inl e =>
      rw [r8] at O8
      obtain ⟨h9, o1, o2, o3, ⟨n9, ts9, o4, o5, o6⟩, o7⟩ := O8
      rw [o1]
      refine ⟨(mx_u h9.1 18 11 (iI (lets.length : Int)), h9.2.1, h9.2.2), ?_, by dsimp only; rw [mu_k _ _ (by decide)]; exact o2, o3, ⟨n9, ts9, TermC_18 (by decide) o4, by omega, fun i hi => by rw [o6 i (by omega), k4 i hi]⟩, back h9 o7⟩
      refine Eq.trans (e_X4_readLet_144 (hr0 := rl _ _ rfl (by decide)) ..) ?_
      rw [if_pos (show iI (-1) = -1 from rfl), e_X4_readLet_176, e_X4_readLet_177, l9 h9 o7, e11]
      rfl
    | inr x =>
      obtain ⟨t2, j9, n9, ts9⟩ := x
      rw [r8] at O8
      obtain ⟨h9, o1, R9, o3⟩ := O8
      obtain ⟨f1, f2, f3, f4, f5, f6, f7⟩ := K8 t2 j9 n9 ts9 r8
      have tl2 := al_lt f2
      have j9b := jb j9
      rw [o1]
      refine Eq.subst (motive := fun X => RdO c len N s lets L h n ts _ X) (e_X4_readLet_144 (s0 := iI (t2 : Int)) (hr0 := rl _ _ rfl (by decide)) ..).symm ?_
      rw [if_neg (show ¬ iI (t2 : Int) = -1 from fun z => (by have := (ii_eq (by omega) (by omega)).mp (z.trans (show (-1 : Int32) = iI (-1) from rfl)); omega)), l9 h9 o3, e11]
      dsimp only
      have X10 := back h9 o3
      have R10 : RdC c len N s lets j9 n9 ts9 (mx_u h9.1 18 11 (iI (lets.length : Int)), h9.2.1, h9.2.2) := RdC_x R X10 (Nat.le_refl _) (TermC_18 (by decide) R9.2.2.2.1) (by dsimp only; rw [mu_k _ _ (by decide)]; exact R9.2.2.2.2.1)
      generalize (mx_u h9.1 18 11 (iI (lets.length : Int)), h9.2.1, h9.2.2) = h10 at X10 R10
      rcases brk (L := L) 41 R10 (by omega) (by decide) with ⟨q6, h11, b6, R11, X11⟩ | ⟨q6, b6⟩
      · rw [if_pos q6]
        have b6' : mx_C mm_X4_bracket [.ref 18, .int 41] h10 = _ := b6
        rw [b6']
        refine ⟨h11, ?_, R11, RdX_t (Nat.le_refl _) (Nat.le_refl _) X10 X11⟩
        refine Eq.trans (e_X4_readLet_168 ..) ?_
        rw [if_neg (show ¬ iI 1 = 0 by decide)]
        exact e_X4_readLet_177 ..
      · rw [if_neg q6]
        have b6' : mx_C mm_X4_bracket [.ref 18, .int 41] h10 = _ := b6
        rw [b6']
        refine RdO_f ?_ (by omega) R10 (by omega) (fun i hi => by rw [f4 i (by omega), k4 i hi]) X10
        refine Eq.trans (e_X4_readLet_168 ..) ?_
        rw [if_pos (show iI 0 = 0 from rfl), e_X4_readLet_176]
        exact e_X4_readLet_177 ..
end RC
