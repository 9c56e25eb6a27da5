/-! the class's read -/
def RdRO (c : Nat → Int) (len N : Nat) (s : Sc) (n : Nat) (ts : Nat → Tm) (h : mx_H) (r : Rc) (X : Option mx_O) : Prop := match r with
  | .inl e => ∃ h', X = some (some .null, h') ∧ h'.1 18 4 = iI (e : Int) ∧ e < 2000 ∧ (∃ n' ts', TermC n' ts' h'.1 h'.2.2 ∧ n ≤ n' ∧ ∀ i, i < n → ts' i = ts i) ∧ RdY h h'
  | .inr (w, L, so, t, n', ts') => ∃ h', X = some (some (.ref (1000 + w)), h') ∧ TermC n' ts' h'.1 h'.2.2 ∧ RdY h h' ∧ (w = 4 → h'.1 18 5 = iI (beL L) ∧ h'.1 18 6 = iI so) ∧ (w = 5 → h'.1 18 7 = iI (t : Int))
section RC
variable {c : Nat → Int} {len N : Nat} {s : Sc} {A : Nat → Prop} {j n : Nat} {ts : Nat → Tm} {h : mx_H}
theorem X4_readNewName_c (B : ScB s) (R : RdC c len N s [] j n ts h) (hj : j < 1000) : ((jN c len j = 0 ∨ ¬ lkC s (jL c len j) = -1) → ∃ h' j', mx_C mm_X4_readNewName [.ref 18] h = some (some (.int (iI (0))), h') ∧ RdC c len N s [] j' n ts h' ∧ h'.1 18 4 = iI (j : Int) ∧ RdY h h') ∧ (¬ (jN c len j = 0 ∨ ¬ lkC s (jL c len j) = -1) → ∃ h', mx_C mm_X4_readNewName [.ref 18] h = some (some (.int (iI (1))), h') ∧ RdC c len N s [] (j + 1) n ts h' ∧ h'.1 18 5 = iI (beL (jL c len j)) ∧ RdY h h') := by
  have st : mx_C mm_X4_readNewName [.ref 18] h = mx_D (4, mm_X4_readNewName, 12, [.ref 18], [.int (iI (jN c len j)), .ref 18]) h := by
    rw [c_X4_readNewName, e_X4_readNewName_0, R.2.2.2.2.1, X8_nameAt_c R.2.1 R.1 (by omega)]
    rfl
  rw [st, e_X4_readNewName_12, mu_s]
  have R1 : RdC c len N s [] j n ts (mx_u h.1 18 5 (iI (jN c len j)), h.2.1, h.2.2) := RdC_w R (by decide)
  have Y1 : RdY h (mx_u h.1 18 5 (iI (jN c len j)), h.2.1, h.2.2) := RdY_18
  have s1 : (mx_u h.1 18 5 (iI (jN c len j)), h.2.1, h.2.2).1 18 5 = iI (jN c len j) := by dsimp only; exact mu_s _ _ _ _
  generalize (mx_u h.1 18 5 (iI (jN c len j)), h.2.1, h.2.2) = h1 at R1 Y1 s1
  have f37 : mx_D (4, mm_X4_readNewName, 37, [.ref 18], []) h1 = some (some (.int (iI (0))), (mx_u h1.1 18 4 (iI (j : Int)), h1.2.1, h1.2.2)) := by
    rw [e_X4_readNewName_37, R1.2.2.2.2.1, X4_failAt_c]
    exact (e_X4_readNewName_45 ..).trans (if_pos rfl)
  have fl : ∀ X : Option mx_O, X = some (some (.int (iI (0))), (mx_u h1.1 18 4 (iI (j : Int)), h1.2.1, h1.2.2)) → ∃ h' j', X = some (some (.int (iI (0))), h') ∧ RdC c len N s [] j' n ts h' ∧ h'.1 18 4 = iI (j : Int) ∧ RdY h h' := fun X hX => ⟨_, j, hX, RdC_w R1 (by decide), by dsimp only; exact mu_s _ _ _ _, RdY_t Y1 RdY_18⟩
  by_cases q0 : jN c len j = 0
  · refine ⟨fun _ => fl _ ?_, fun z => absurd (Or.inl q0) z⟩
    rw [q0, if_pos (show iI 0 = 0 from rfl), f37]
  have nl := jN_l q0
  have nb := beL_b nl.1
  rw [if_neg (show ¬ iI (jN c len j) = 0 from fun z => (by rw [nl.2.1] at z; have := (ii_eq (by omega) (by omega)).mp (z.trans (show (0 : Int32) = iI 0 from rfl)); omega))]
  rw [nl.2.1, X5_find_c R1.2.2.1 B nl.1]
  have lb : lkC s (jL c len j) = -1 ∨ (0 ≤ lkC s (jL c len j) ∧ lkC s (jL c len j) < 60) := by
    rcases lkF_m (s := s) (L := jL c len j) (sNc s) 0 with z | ⟨k, a, b, x, y⟩
    · exact Or.inl z
    · right
      have := (B.2.2.2.2.1 k (by omega)).2
      unfold lkC
      omega
  have st2 : ∀ v, (some (some (.int v), h1) : Option mx_O).bind (fun o => mx_D (4, mm_X4_readNewName, 33, [.ref 18], o.1.toList ++ []) o.2) = mx_D (4, mm_X4_readNewName, 33, [.ref 18], [.int v]) h1 := fun v => rfl
  rw [st2, e_X4_readNewName_33]
  by_cases q1 : lkC s (jL c len j) = -1
  · refine ⟨fun z => ?_, fun _ => ?_⟩
    · exact absurd q1 (z.elim (fun y => absurd y (by omega)) id)
    · rw [q1, if_pos (show iI (-1) = -1 from rfl), R1.2.2.2.2.1, ii_s1]
      exact ⟨_, rfl, RdC_3 (j + 1) R1, by dsimp only; rw [mu_k _ _ (by decide), s1, nl.2.1], RdY_t Y1 RdY_18⟩
  · refine ⟨fun _ => fl _ ?_, fun z => absurd (Or.inr q1) z⟩
    rw [if_neg (show ¬ iI (lkC s (jL c len j)) = -1 from fun z => (by have := (ii_eq (by omega) (by omega)).mp (z.trans (show (-1 : Int32) = iI (-1) from rfl)); omega)), f37]
/-- the end of a command -/
theorem X4_read_43 {w : Nat} {L : List Nat} {so : Int} {t : Nat} {h0 : mx_H} {n0 : Nat} {ts0 : Nat → Tm} (R : RdC c len N s [] j n ts h) (hj : j < 1000) (Y : RdY h0 h) (hn : n0 ≤ n) (ho : ∀ i, i < n0 → ts i = ts0 i) (h4 : w = 4 → h.1 18 5 = iI (beL L) ∧ h.1 18 6 = iI so) (h5 : w = 5 → h.1 18 7 = iI (t : Int)) : RdRO c len N s n0 ts0 h0 (rdE c len j (w, L, so, t, n, ts)) (mx_D (36, mm_X4_read, 43, [.ref 18, mx_rf (some (1000 + w))], [.int (iI (1))]) h) := by
  refine Eq.subst (motive := fun X => RdRO c len N s n0 ts0 h0 _ X) (e_X4_read_43 (s0 := iI 1) ..).symm ?_
  rw [if_neg (show ¬ iI 1 = 0 by decide)]
  unfold rdE
  rcases brk0 41 R (by omega) (by decide) with ⟨q1, h1, b1, R1, Y1, u1⟩ | ⟨q1, b1⟩
  rotate_left
  · rw [if_pos q1]
    have b1' : mx_C mm_X4_bracket [.ref 18, .int 41] h = _ := b1
    rw [b1']
    refine ⟨_, ?_, by dsimp only; exact mu_s _ _ _ _, by omega, ⟨n, ts, TermC_18 (by decide) R.2.2.2.1, hn, ho⟩, RdY_t Y RdY_18⟩
    refine Eq.trans (e_X4_read_52 (s0 := iI 0) ..) ?_
    rw [if_pos (show iI 0 = 0 from rfl), e_X4_read_55]
  rw [if_neg (fun z => z q1)]
  have b1' : mx_C mm_X4_bracket [.ref 18, .int 41] h = _ := b1
  rw [b1']
  refine Eq.subst (motive := fun X => RdRO c len N s n0 ts0 h0 _ X) (e_X4_read_52 (s0 := iI 1) ..).symm ?_
  rw [if_neg (show ¬ iI 1 = 0 by decide), R1.2.2.2.2.1, X8_isEnd_c R1.2.1 R1.1 (by omega)]
  refine Eq.subst (motive := fun X => RdRO c len N s n0 ts0 h0 _ X) (e_X4_read_68 (s0 := bI (decide (jB c len (j + 1) = len))) ..).symm ?_
  by_cases q2 : jB c len (j + 1) = len
  · rw [if_pos q2, decide_eq_true q2, if_neg (show ¬ bI true = 0 by decide)]
    refine ⟨h1, rfl, R1.2.2.2.1, RdY_t Y Y1, fun z => ⟨(u1 5 (by decide) (by decide)).trans (h4 z).1, (u1 6 (by decide) (by decide)).trans (h4 z).2⟩, fun z => (u1 7 (by decide) (by decide)).trans (h5 z)⟩
  · rw [if_neg q2, decide_eq_false q2, if_pos (show bI false = 0 from rfl), R1.2.2.2.2.1, X4_failAt_c]
    refine ⟨_, ?_, by dsimp only; exact mu_s _ _ _ _, by omega, ⟨n, ts, TermC_18 (by decide) R1.2.2.2.1, hn, ho⟩, RdY_t (RdY_t Y Y1) RdY_18⟩
    exact e_X4_read_79 ..
theorem X4_read_c (B : ScB s) (T : TxtC c len h.1) (K : TokC c len N h.1 h.2.2) (S : ScopeC s h.1) (M : TermC n ts h.1 h.2.2) (P : Pre c len s A [] 2 n ts) : RdRO c len N s n ts h (rdC c len s n ts) (mx_C mm_X4_read [.ref 18] h) := by
  rw [c_X4_read, e_X4_read_0]
  have R0 : RdC c len N s [] 0 n ts (mx_u (mx_u (mx_u h.1 18 3 0) 18 11 0) 18 4 0, h.2.1, h.2.2) := by
    have q : ∀ a i, a ≠ 18 → mx_u (mx_u (mx_u h.1 18 3 0) 18 11 0) 18 4 0 a i = h.1 a i := fun a i z => by rw [mu_c _ _ _ _ z, mu_c _ _ _ _ z, mu_c _ _ _ _ z]
    refine ⟨TxtC_e (q 1 1 (by decide)) (fun i => q 2 i (by decide)) T, TokC_e (q 1 5 (by decide)) (fun i => q 3 i (by decide)) (fun i => q 4 i (by decide)) rfl K, ScopeC_e (fun a i p1 p2 => q a i (by omega)) S, TermC_e (q 6 4 (by decide)) (fun a i p1 p2 => q a i (by omega)) rfl M, ?_, ?_, trivial⟩
    · dsimp only; rw [mu_k _ _ (by decide), mu_k _ _ (by decide), mu_s]; rfl
    · dsimp only; rw [mu_k _ _ (by decide), mu_s]; rfl
  have Y0 : RdY h (mx_u (mx_u (mx_u h.1 18 3 0) 18 11 0) 18 4 0, h.2.1, h.2.2) := by
    refine ⟨fun b i _ _ _ _ p q _ _ => ?_, fun i _ => ?_, rfl, fun _ _ => rfl⟩
    all_goals
      dsimp only [mx_u]
      rw [if_neg (by omega), if_neg (by omega), if_neg (by omega)]
  have e0 : (mx_u (mx_u (mx_u h.1 18 3 0) 18 11 0) 18 4 0, h.2.1, h.2.2).1 18 4 = iI ((0 : Nat) : Int) := by dsimp only; rw [mu_s]; rfl
  generalize (mx_u (mx_u (mx_u h.1 18 3 0) 18 11 0) 18 4 0, h.2.1, h.2.2) = h0 at R0 Y0 e0
  unfold rdC
  have fin : ∀ (e j' n' : Nat) (ts' : Nat → Tm) (h' : mx_H) (X : Option mx_O), X = some (some .null, h') → h'.1 18 4 = iI (e : Int) → e < 2000 → TermC n' ts' h'.1 h'.2.2 → n ≤ n' → (∀ i, i < n → ts' i = ts i) → RdY h h' → RdRO c len N s n ts h (.inl e) X := fun e j' n' ts' h' X a1 a2 a3 a4 a5 a6 a7 => ⟨h', a1, a2, a3, ⟨n', ts', a4, a5, a6⟩, a7⟩
  rcases brk0 40 R0 (by omega) (by decide) with ⟨q1, h1, b1, R1, Y1, u1⟩ | ⟨q1, b1⟩
  rotate_left
  · rw [if_pos q1]
    have b1' : mx_C mm_X4_bracket [.ref 18, .int 40] h0 = _ := b1
    rw [b1']
    refine fin 0 0 n ts _ _ ?_ (by dsimp only; exact mu_s _ _ _ _) (by decide) (TermC_18 (by decide) R0.2.2.2.1) (Nat.le_refl _) (fun _ _ => rfl) (RdY_t Y0 RdY_18)
    exact (e_X4_read_21 (s0 := iI 0) ..).trans (if_pos rfl)
  rw [if_neg (fun z => z q1)]
  have b1' : mx_C mm_X4_bracket [.ref 18, .int 40] h0 = _ := b1
  rw [b1']
  refine Eq.subst (motive := fun X => RdRO c len N s n ts h _ X) (e_X4_read_21 (s0 := iI 1) ..).symm ?_
  rw [if_neg (show ¬ iI 1 = 0 by decide), R1.2.2.2.2.1, X8_wordAt_c R1.2.1 (by omega)]
  refine Eq.subst (motive := fun X => RdRO c len N s n ts h _ X) (e_X4_read_37 (s0 := wRf (jW c len 1)) ..).symm ?_
  have rT : mx_rank mm_X4_readTerm [.ref 18, .int 1] < 35 := by
    have : mx_rank mm_X4_readTerm [.ref 18, .int 1] = _ := rk_T (L := 1) (by decide)
    rw [this]
    decide
  have stB : mx_C mm_X4_readBehind [.ref 18, mx_rf (wRf (jW c len 1))] h1 = _ := (c_X4_readBehind (wRf (jW c len 1)) h1).trans (e_X4_readBehind_0 _ _ rf_wj rT)
  rw [stB, R1.2.2.2.2.1, ii_s1]
  have R2 := RdC_3 (0 + 1 + 1) R1
  have Y2 : RdY h (mx_u h1.1 18 3 (iI ((0 + 1 + 1 : Nat) : Int)), h1.2.1, h1.2.2) := RdY_t (RdY_t Y0 Y1) RdY_18
  have e3 : (mx_u h1.1 18 3 (iI ((0 + 1 + 1 : Nat) : Int))) 18 3 = iI ((2 : Nat) : Int) := by rw [mu_s]
  rw [e3]
  generalize (mx_u h1.1 18 3 (iI ((0 + 1 + 1 : Nat) : Int)), h1.2.1, h1.2.2) = h2 at R2 Y2
  have len1 := P.2.2.2
  have end43 : ∀ (o : Option Nat) (h' : mx_H), mx_D (36, mm_X4_read, 43, [.ref 18, mx_rf o], [.int (iI (0))]) h' = some (some .null, h') := by
    intro o h'
    rw [e_X4_read_43, if_pos (show iI 0 = 0 from rfl), e_X4_read_55]
  by_cases p6 : jW c len 1 = some 6
  · rw [if_pos p6, p6, if_pos (c := (mx_rf (wRf (some 6)) : Value) = .ref 1006) rfl]
    have O := X4_read_43 (w := 6) (L := []) (so := 0) (t := 0) R2 (by omega) Y2 (Nat.le_refl _) (fun _ _ => rfl) (fun z => by cases z) (fun z => by cases z)
    refine Eq.subst (motive := fun X => RdRO c len N s n ts h _ X) ?_ O
    rw [e_X4_readBehind_29]
    rfl
  rw [if_neg p6, if_neg (c := (mx_rf (wRf (jW c len 1)) : Value) = .ref 1006) (fun z => p6 ((rf_is 6 rfl).mp z))]
  by_cases p7 : jW c len 1 = some 7
  · rw [if_pos p7, p7, if_pos (c := (mx_rf (wRf (some 7)) : Value) = .ref 1007) rfl]
    have O := X4_read_43 (w := 7) (L := []) (so := 0) (t := 0) R2 (by omega) Y2 (Nat.le_refl _) (fun _ _ => rfl) (fun z => by cases z) (fun z => by cases z)
    refine Eq.subst (motive := fun X => RdRO c len N s n ts h _ X) ?_ O
    rw [e_X4_readBehind_29]
    rfl
  rw [if_neg p7, if_neg (c := (mx_rf (wRf (jW c len 1)) : Value) = .ref 1007) (fun z => p7 ((rf_is 7 rfl).mp z))]
  by_cases p4 : jW c len 1 = some 4
  · rw [if_pos p4, p4, if_pos (c := (mx_rf (wRf (some 4)) : Value) = .ref 1004) rfl]
    have NN := X4_readNewName_c B R2 (by omega)
    have f56 : ∀ (h' : mx_H), mx_D (35, mm_X4_readBehind, 56, [.ref 18, mx_rf (wRf (some 4)), .int (iI (((0 + 1 : Nat) : Int))), mx_junk], []) h' = some (some (.int (iI (0))), h') := by
      intro h'
      rw [e_X4_readBehind_56, e_X4_readBehind_57]
      exact if_pos rfl
    by_cases q2 : jN c len 2 = 0 ∨ ¬ lkC s (jL c len 2) = -1
    · rw [if_pos q2]
      obtain ⟨h3, j3, o1, R3, o3, Y3⟩ := NN.1 q2
      rw [o1]
      refine fin 2 0 n ts h3 _ ?_ o3 (by decide) R3.2.2.2.1 (Nat.le_refl _) (fun _ _ => rfl) (RdY_t Y2 Y3)
      have : ∀ X : Option mx_O, X = some (some (.int (iI (0))), h3) → X.bind (fun o => mx_D (36, mm_X4_read, 43, [.ref 18, mx_rf (wRf (some 4))], o.1.toList ++ []) o.2) = some (some .null, h3) := fun X hX => by rw [hX]; exact end43 _ _
      refine this _ ?_
      refine Eq.trans (e_X4_readBehind_42 (s0 := iI 0) ..) ?_
      rw [if_pos (show iI 0 = 0 from rfl)]
      exact f56 _
    rw [if_neg q2]
    obtain ⟨h3, o1, R3, o3, Y3⟩ := NN.2 q2
    rw [o1]
    have O := X4_readSort_c R3 (by omega)
    have st42 : ((some (some (.int (iI (1))), h3) : Option mx_O).bind fun o => mx_D (35, mm_X4_readBehind, 42, [.ref 18, mx_rf (wRf (some 4)), .int (iI (((0 + 1 : Nat) : Int))), mx_junk], o.1.toList ++ []) o.2) = (mx_C mm_X4_readSort [.ref 18] h3).bind (fun o => mx_D (35, mm_X4_readBehind, 49, [.ref 18, mx_rf (wRf (some 4)), .int (iI (((0 + 1 : Nat) : Int))), mx_junk], o.1.toList ++ []) o.2) := by
      refine Eq.trans (e_X4_readBehind_42 (s0 := iI 1) ..) ?_
      rw [if_neg (show ¬ iI 1 = 0 by decide)]
    rw [st42]
    unfold rdD
    cases r : rdS c len 3 with
    | inl e =>
      rw [r] at O
      obtain ⟨h4, j4, a1, a2, a3, R4, Y4, a6⟩ := O
      rw [a1]
      refine fin e 0 n ts h4 _ ?_ a2 a3 R4.2.2.2.1 (Nat.le_refl _) (fun _ _ => rfl) (RdY_t (RdY_t Y2 Y3) Y4)
      have : ∀ X : Option mx_O, X = some (some (.int (iI (0))), h4) → X.bind (fun o => mx_D (36, mm_X4_read, 43, [.ref 18, mx_rf (wRf (some 4))], o.1.toList ++ []) o.2) = some (some .null, h4) := fun X hX => by rw [hX]; exact end43 _ _
      refine this _ ?_
      refine Eq.trans (e_X4_readBehind_49 (s0 := iI 0) ..) ?_
      rw [if_pos (show iI 0 = 0 from rfl)]
      exact f56 _
    | inr x =>
      obtain ⟨so, j4⟩ := x
      rw [r] at O
      have rb := rdS_b r
      obtain ⟨h4, a1, R4, a3, Y4, a5⟩ := O
      rw [a1]
      have O2 := X4_read_43 (w := 4) (L := jL c len 2) (so := so) (t := 0) R4 (by omega) (RdY_t (RdY_t Y2 Y3) Y4) (Nat.le_refl _) (fun _ _ => rfl) (fun _ => ⟨a5.trans o3, a3⟩) (fun z => by cases z)
      refine Eq.subst (motive := fun X => RdRO c len N s n ts h _ X) ?_ O2
      have : ∀ X : Option mx_O, X = some (some (.int (iI (1))), h4) → mx_D (36, mm_X4_read, 43, [.ref 18, mx_rf (some (1000 + 4))], [.int (iI (1))]) h4 = X.bind (fun o => mx_D (36, mm_X4_read, 43, [.ref 18, mx_rf (wRf (some 4))], o.1.toList ++ []) o.2) := fun X hX => by rw [hX]; rfl
      refine this _ ?_
      refine Eq.trans (e_X4_readBehind_49 (s0 := iI 1) ..) ?_
      rw [if_neg (show ¬ iI 1 = 0 by decide), e_X4_readBehind_57]
      exact if_pos rfl
  rw [if_neg p4, if_neg (c := (mx_rf (wRf (jW c len 1)) : Value) = .ref 1004) (fun z => p4 ((rf_is 4 rfl).mp z))]
  by_cases p5 : jW c len 1 = some 5
  · rw [if_pos p5, p5, if_pos (c := (mx_rf (wRf (some 5)) : Value) = .ref 1005) rfl]
    have O : RdO c len N s [] 1 h2 n ts (rdT c len s 8 [] 2 n ts) (mx_C mm_X4_readTerm [.ref 18, .int 1] h2) := X4_readTerm_c (A := A) 8 1 rfl (by decide) B [] 2 n ts h2 R2 P (by omega) (by decide)
    have K := rdT_k 8 [] 2 n ts P
    have f113 : ∀ (h' : mx_H), mx_D (35, mm_X4_readBehind, 113, [.ref 18, mx_rf (wRf (some 5)), .int (iI (((0 + 1 : Nat) : Int))), .int (iI (((2 : Nat) : Int)))], []) h' = some (some (.int (iI (0))), h') := by
      intro h'
      rw [e_X4_readBehind_113, e_X4_readBehind_114]
      exact if_pos rfl
    unfold rdQ
    cases r : rdT c len s 8 [] 2 n ts with
    | inl e =>
      rw [r] at O
      obtain ⟨h', o1, o2, o3, ⟨n', ts', o4, o5, o6⟩, o7⟩ := O
      rw [o1]
      refine fin e 0 n' ts' (mx_u h'.1 18 7 (iI (-1)), h'.2.1, h'.2.2) _ ?_ (by dsimp only; rw [mu_k _ _ (by decide)]; exact o2) o3 (TermC_18 (by decide) o4) o5 o6 (RdY_t (RdY_t Y2 (RdY_x o7)) RdY_18)
      have : ∀ X : Option mx_O, X = some (some (.int (iI (0))), (mx_u h'.1 18 7 (iI (-1)), h'.2.1, h'.2.2)) → X.bind (fun o => mx_D (36, mm_X4_read, 43, [.ref 18, mx_rf (wRf (some 5))], o.1.toList ++ []) o.2) = some (some .null, (mx_u h'.1 18 7 (iI (-1)), h'.2.1, h'.2.2)) := fun X hX => by rw [hX]; exact end43 _ _
      refine this _ ?_
      refine Eq.trans (e_X4_readBehind_76 (s1 := iI (-1)) ..) ?_
      rw [mu_s, if_pos (show iI (-1) = -1 from rfl)]
      exact f113 _
    | inr x =>
      obtain ⟨t, j3, n3, ts3⟩ := x
      rw [r] at O
      obtain ⟨h3, o1, R3, X3⟩ := O
      obtain ⟨k1, k2, k3, k4, k5, k6, k7⟩ := K t j3 n3 ts3 r
      have tl := al_lt k2
      have jb := jB_le (c := c) (len := len) j3
      have p2 := P.2.1
      have sb := (k1.1 t tl).1.2.1
      rw [o1]
      have R4 : RdC c len N s [] j3 n3 ts3 (mx_u h3.1 18 7 (iI (t : Int)), h3.2.1, h3.2.2) := RdC_w R3 (by decide)
      have Y4 : RdY h (mx_u h3.1 18 7 (iI (t : Int)), h3.2.1, h3.2.2) := RdY_t (RdY_t Y2 (RdY_x X3)) RdY_18
      have s4 : (mx_u h3.1 18 7 (iI (t : Int)), h3.2.1, h3.2.2).1 18 7 = iI (t : Int) := by dsimp only; exact mu_s _ _ _ _
      have st : ((some (some (.int (iI ((t : Int)))), h3) : Option mx_O).bind fun o => mx_D (35, mm_X4_readBehind, 76, [.ref 18, mx_rf (wRf (some 5)), .int (iI (((0 + 1 : Nat) : Int))), .int (iI (((2 : Nat) : Int)))], o.1.toList ++ [.ref 18]) o.2) = mx_D (35, mm_X4_readBehind, 98, [.ref 18, mx_rf (wRf (some 5)), .int (iI (((0 + 1 : Nat) : Int))), .int (iI (((2 : Nat) : Int)))], [.int (iI (tS (ts3 t)))]) (mx_u h3.1 18 7 (iI (t : Int)), h3.2.1, h3.2.2) := by
        refine Eq.trans (e_X4_readBehind_76 (s1 := iI (t : Int)) ..) ?_
        rw [mu_s, if_neg (show ¬ iI (t : Int) = -1 from fun z => (by have := (ii_eq (by omega) (by omega)).mp (z.trans (show (-1 : Int32) = iI (-1) from rfl)); omega)), X7_sortOf_c R4.2.2.2.1 tl]
        rfl
      rw [st]
      generalize (mx_u h3.1 18 7 (iI (t : Int)), h3.2.1, h3.2.2) = h4 at R4 Y4 s4
      rw [e_X4_readBehind_98]
      dsimp only
      by_cases q3 : tS (ts3 t) = 0
      · rw [if_pos q3, q3, if_pos (show iI 0 = 0 from rfl), e_X4_readBehind_109, e_X4_readBehind_114]
        have O2 := X4_read_43 (w := 5) (L := []) (so := 0) (t := t) R4 (by omega) Y4 k3 k4 (fun z => by cases z) (fun _ => s4)
        refine Eq.subst (motive := fun X => RdRO c len N s n ts h _ X) ?_ O2
        have : ∀ X : Option mx_O, X = some (some (.int (iI (1))), h4) → mx_D (36, mm_X4_read, 43, [.ref 18, mx_rf (some (1000 + 5))], [.int (iI (1))]) h4 = X.bind (fun o => mx_D (36, mm_X4_read, 43, [.ref 18, mx_rf (wRf (some 5))], o.1.toList ++ []) o.2) := fun X hX => by rw [hX]; rfl
        exact this _ (if_pos rfl)
      · rw [if_neg q3, if_neg (show ¬ iI (tS (ts3 t)) = 0 from fun z => (by have := (ii_eq (by omega) (by omega)).mp (z.trans (show (0 : Int32) = iI 0 from rfl)); omega)), X4_failAt_c]
        refine fin 2 0 n3 ts3 (mx_u h4.1 18 4 (iI ((2 : Nat) : Int)), h4.2.1, h4.2.2) _ ?_ (by dsimp only; exact mu_s _ _ _ _) (by decide) (TermC_18 (by decide) R4.2.2.2.1) k3 k4 (RdY_t Y4 RdY_18)
        have : ∀ X : Option mx_O, X = some (some (.int (iI (0))), (mx_u h4.1 18 4 (iI ((2 : Nat) : Int)), h4.2.1, h4.2.2)) → X.bind (fun o => mx_D (36, mm_X4_read, 43, [.ref 18, mx_rf (wRf (some 5))], o.1.toList ++ []) o.2) = some (some .null, (mx_u h4.1 18 4 (iI ((2 : Nat) : Int)), h4.2.1, h4.2.2)) := fun X hX => by rw [hX]; exact end43 _ _
        refine this _ ?_
        refine Eq.trans (e_X4_readBehind_106 (s0 := iI 0) ..) ?_
        rw [if_pos (show iI 0 = 0 from rfl)]
        exact f113 _
  rw [if_neg p5, if_neg (c := (mx_rf (wRf (jW c len 1)) : Value) = .ref 1005) (fun z => p5 ((rf_is 5 rfl).mp z)), X4_failAt_c]
  refine fin 1 0 n ts (mx_u h2.1 18 4 (iI ((0 + 1 : Nat) : Int)), h2.2.1, h2.2.2) _ ?_ (by dsimp only; exact mu_s _ _ _ _) (by decide) (TermC_18 (by decide) R2.2.2.2.1) (Nat.le_refl _) (fun _ _ => rfl) (RdY_t Y2 RdY_18)
  have : ∀ X : Option mx_O, X = some (some (.int (iI (0))), (mx_u h2.1 18 4 (iI ((0 + 1 : Nat) : Int)), h2.2.1, h2.2.2)) → X.bind (fun o => mx_D (36, mm_X4_read, 43, [.ref 18, mx_rf (wRf (jW c len 1))], o.1.toList ++ []) o.2) = some (some .null, (mx_u h2.1 18 4 (iI ((0 + 1 : Nat) : Int)), h2.2.1, h2.2.2)) := fun X hX => by rw [hX]; exact end43 _ _
  refine this _ ?_
  exact (e_X4_readBehind_120 ..).trans (if_pos rfl)
end RC
