/-! the reference's readTerm is rdT -/
section LP
variable {c : Nat → Int} {len : Nat} {s : Sc} {A : Nat → Prop}
theorem RdM_59 {fs : List Fr} {j0 : Nat} {L : List Nat} {j n : Nat} {ts : Nat → Tm} {h : mx_H} {x : Int32} (R : RdM c len s ((35, j0, [], 0, 0, L) :: fs) j n ts h) : RdM c len s ((35, j0, [], 0, 0, L) :: fs) j n ts (mx_u h.1 59 (3 * fs.length) x, h.2.1, h.2.2) := by
  have X : MdX fs.length h (mx_u h.1 59 (3 * fs.length) x, h.2.1, h.2.2) := MdX_u (by omega)
  have w : ∀ b i, b ≠ 59 → mx_u h.1 59 (3 * fs.length) x b i = h.1 b i := fun b i z => mu_c _ _ _ _ z
  obtain ⟨⟨⟨T1, T2, T3⟩, t1, t2, t3, t4, t5⟩, S, T, d0, ⟨f1, f2, f3, f4, f5, f6, f7, f8, f9⟩, F⟩ := R
  exact ⟨⟨⟨(w 47 1 (by decide)).trans T1, fun i hi => (w 48 i (by decide)).trans (T2 i hi), T3⟩, (w 47 3 (by decide)).trans t1, (w 47 4 (by decide)).trans t2, (w 47 2 (by decide)).trans t3, t4, t5⟩, ScopeM_x X S, TermM_e (w 47 9 (by decide)) (fun b i p q => w b i (by omega)) T, (w 47 18 (by decide)).trans d0, ⟨(w 56 _ (by decide)).trans f1, (w 57 _ (by decide)).trans f2, (w 58 _ (by decide)).trans f3, (fun y hy => by cases hy), (w 60 _ (by decide)).trans f5, (w 61 _ (by decide)).trans f6, f7, f8, f9⟩, FrM_x X fs (Nat.le_refl _) F⟩
theorem RdM_58 {fs : List Fr} {j0 t : Nat} {L : List Nat} {j n : Nat} {ts : Nat → Tm} {h : mx_H} (R : RdM c len s ((35, j0, [], 0, 0, L) :: fs) j n ts h) (ht : h.1 59 (3 * fs.length) = iI (t : Int)) : RdM c len s ((35, j0, [t], 0, 0, L) :: fs) j n ts (mx_u h.1 58 fs.length 1, h.2.1, h.2.2) := by
  have X : MdX fs.length h (mx_u h.1 58 fs.length 1, h.2.1, h.2.2) := MdX_u (by omega)
  have w : ∀ b i, b ≠ 58 → mx_u h.1 58 fs.length 1 b i = h.1 b i := fun b i z => mu_c _ _ _ _ z
  obtain ⟨⟨⟨T1, T2, T3⟩, t1, t2, t3, t4, t5⟩, S, T, d0, ⟨f1, f2, f3, f4, f5, f6, f7, f8, f9⟩, F⟩ := R
  refine ⟨⟨⟨(w 47 1 (by decide)).trans T1, fun i hi => (w 48 i (by decide)).trans (T2 i hi), T3⟩, (w 47 3 (by decide)).trans t1, (w 47 4 (by decide)).trans t2, (w 47 2 (by decide)).trans t3, t4, t5⟩, ScopeM_x X S, TermM_e (w 47 9 (by decide)) (fun b i p q => w b i (by omega)) T, (w 47 18 (by decide)).trans d0, ⟨(w 56 _ (by decide)).trans f1, (w 57 _ (by decide)).trans f2, ?_, ?_, (w 60 _ (by decide)).trans f5, (w 61 _ (by decide)).trans f6, f7, f8, (by show (1 : Nat) ≤ 3; decide)⟩, FrM_x X fs (Nat.le_refl _) F⟩
  · dsimp only
    rw [mu_s]
    rfl
  · intro y hy
    have : y = 0 := by have hy : y < 1 := hy; omega
    subst this
    exact (w 59 _ (by decide)).trans ht
theorem DL_let0 {fs : List Fr} {j0 : Nat} {L : List Nat} {j n : Nat} {ts : Nat → Tm} {h : mx_H} (R : RdM c len s ((35, j0, [], 0, 0, L) :: fs) j n ts h) (hf : fs.length < 8) {t : Nat} (t0 a0 : Int32) (a : Int) (v5 : Value) :
    (¬ jO c len j 41 = true → ∃ h', DL t0 a0 (t : Int) a v5 h = some (some (.int (iI (-1))), h') ∧ FaM c len fs.length n ts j h h') ∧
    (jO c len j 41 = true → ¬ jO c len (j + 1) 41 = true → ∃ h', DL t0 a0 (t : Int) a v5 h = some (some (.int (iI (-1))), h') ∧ FaM c len fs.length n ts (j + 1) h h') ∧
    (jO c len j 41 = true → jO c len (j + 1) 41 = true → ∃ h', DL t0 a0 (t : Int) a v5 h = some (some (.int (iI (0))), h') ∧ RdM c len s ((35, j0, [t], 0, 0, L) :: fs) (j + 2) n ts h' ∧ MdX fs.length h h' ∧ h'.1 47 7 = h.1 47 7) := by
  have dd := R.2.2.2.1
  rw [List.length_cons] at dd
  obtain ⟨f1, f2, f3, _⟩ := id R.2.2.2.2.1
  have f1 : h.1 56 fs.length = iI 35 := f1
  have f3 : h.1 58 fs.length = iI 0 := f3
  have dn : (iI (fs.length : Int)).toNatClampNeg = fs.length := by rw [ii_cl (by omega)]; exact Int.toNat_natCast _
  have din := in_t (a := (fs.length : Int)) (n := 12) (by omega)
  have e3 : (iI (3 * (fs.length : Int))).toNatClampNeg = 3 * fs.length := by rw [ii_cl (by omega)]; omega
  have R1 := RdM_59 (x := iI (t : Int)) R
  have X1 : MdX fs.length h (mx_u h.1 59 (3 * fs.length) (iI (t : Int)), h.2.1, h.2.2) := MdX_u (by omega)
  have z1 : (mx_u h.1 59 (3 * fs.length) (iI (t : Int)), h.2.1, h.2.2).1 47 7 = h.1 47 7 := by dsimp only; rw [mu_c _ _ _ _ (by decide)]
  have g1 : (mx_u h.1 59 (3 * fs.length) (iI (t : Int)), h.2.1, h.2.2).1 59 (3 * fs.length) = iI (t : Int) := by dsimp only; rw [mu_s]
  have s1 : (mx_u h.1 59 (3 * fs.length) (iI (t : Int))) 47 2 = iI (jS c len j) := R1.1.2.2.2.1
  have st : DL t0 a0 (t : Int) a v5 h = if iI (jS c len j) = 2 then mx_D (6, mm_X11_deliver, 66, [.ref 47, .int t0, .int a0, .int (iI ((t : Int))), .int (iI (a)), .int (iI ((fs.length : Int))), mx_junk], [.int 1, .ref 47]) (mx_u h.1 59 (3 * fs.length) (iI (t : Int)), h.2.1, h.2.2) else mx_D (6, mm_X11_deliver, 66, [.ref 47, .int t0, .int a0, .int (iI ((t : Int))), .int (iI (a)), .int (iI ((fs.length : Int))), mx_junk], [.int 0, .ref 47]) (mx_u h.1 59 (3 * fs.length) (iI (t : Int)), h.2.1, h.2.2) := by
    unfold DL
    have e1 : iI ((fs.length + 1 : Nat) : Int) - 1 = iI (fs.length : Int) := (ii_sub _ 1).trans (congrArg iI (by omega))
    rw [e_X11_deliver_5, dd, if_neg (show ¬ iI ((fs.length + 1 : Nat) : Int) ≤ 0 from fun z => by have := (ii_le (b := 0) (by omega)).mp z; omega), e1, if_pos din, dn, f1, if_pos (show iI 35 = 35 from rfl), if_pos din, f3, if_pos (show iI 0 = 0 from rfl), show (3 : Int32) = iI 3 from rfl, ii_mul, if_pos (in_t (n := 36) (by omega)), e3, s1]
  generalize (mx_u h.1 59 (3 * fs.length) (iI (t : Int)), h.2.1, h.2.2) = h1 at R1 X1 z1 g1 st
  have f97 : ∀ (x : Int32) (h' : mx_H), x = 0 → mx_D (6, mm_X11_deliver, 97, [.ref 47, .int t0, .int a0, .int (iI ((t : Int))), .int (iI (a)), .int (iI ((fs.length : Int))), mx_junk], [.int x]) h' = some (some (.int (iI (-1))), (mx_u h'.1 58 fs.length 1, h'.2.1, h'.2.2)) := by
    intro x h' hx
    rw [e_X11_deliver_97, if_pos din, if_pos hx, e_X11_deliver_117, dn]
    rfl
  have fail : ∀ (e : Nat) (h' : mx_H), MdX fs.length h h' → TermM n ts h'.1 → ∀ h'' : mx_H, h'' = (mx_u h'.1 47 7 (iI (jB c len e : Int)), h'.2.1, h'.2.2) → FaM c len fs.length n ts e h (mx_u h''.1 58 fs.length 1, h''.2.1, h''.2.2) := by
    intro e h' X T h'' e''
    obtain ⟨a1, a2, n', ts', a3, a4, a5⟩ := FaM_7 (c := c) (len := len) (e := e) X T
    rw [← e''] at a1 a2 a3
    exact ⟨by dsimp only; rw [mu_c _ _ _ _ (by decide)]; exact a1, MdX_t (Nat.le_refl _) a2 (MdX_u (by omega)), n', ts', TermM_e (by dsimp only; rw [mu_c _ _ _ _ (by decide)]) (fun a k p q => by dsimp only; rw [mu_c _ _ _ _ (by omega)]) a3, a4, a5⟩
  refine ⟨fun q => ?_, fun q1 q2 => ?_, fun q1 q2 => ?_⟩
  · rw [st, if_neg (jS_n2 (fun z => q (jS_2.mp z))), e_X11_deliver_66, show mx_C mm_X11_pass [.ref 47, .int 0] h1 = _ from X11_pass_f R1.1]
    refine ⟨_, ?_, fail j h1 X1 R1.2.2.1 _ rfl⟩
    refine Eq.trans (e_X11_deliver_69 (s0 := iI 0) ..) ?_
    rw [if_pos (show iI 0 = 0 from rfl), e_X11_deliver_96]
    exact f97 _ _ rfl
  · obtain ⟨h2, a2, J2, F2⟩ := X11_pass_t R1.1 (x := 1) (by decide)
    have R2 := RdM_n R1 F2 J2
    have s2 : h2.1 47 2 = iI (jS c len (j + 1)) := J2.2.2.2.1
    rw [st, jS_2.mpr q1, if_pos (show iI 2 = 2 from rfl), e_X11_deliver_66, a2]
    refine ⟨_, ?_, fail (j + 1) h2 (MdX_t (Nat.le_refl _) X1 (MdX_n F2)) R2.2.2.1 _ rfl⟩
    refine Eq.trans (e_X11_deliver_69 (s0 := iI 1) ..) ?_
    dsimp only
    rw [if_neg (show ¬ iI 1 = 0 by decide), s2, if_neg (jS_n2 (fun z => q2 (jS_2.mp z))), e_X11_deliver_86, show mx_C mm_X11_pass [.ref 47, .int 0] h2 = _ from X11_pass_f R2.1]
    refine Eq.trans (e_X11_deliver_89 (s0 := iI 0) ..) ?_
    rw [if_pos (show iI 0 = 0 from rfl), e_X11_deliver_96]
    exact f97 _ _ rfl
  · obtain ⟨h2, a2, J2, F2⟩ := X11_pass_t R1.1 (x := 1) (by decide)
    have R2 := RdM_n R1 F2 J2
    have s2 : h2.1 47 2 = iI (jS c len (j + 1)) := J2.2.2.2.1
    obtain ⟨h3, a3, J3, F3⟩ := X11_pass_t R2.1 (x := 1) (by decide)
    have R3 := RdM_n R2 F3 J3
    have g3 : h3.1 59 (3 * fs.length) = iI (t : Int) := by rw [F3.1 59 _ (by omega), F2.1 59 _ (by omega)]; exact g1
    refine ⟨(mx_u h3.1 58 fs.length 1, h3.2.1, h3.2.2), ?_, RdM_58 R3 g3, MdX_t (Nat.le_refl _) (MdX_t (Nat.le_refl _) X1 (MdX_n (NxF_t F2 F3))) (MdX_u (by omega)), ?_⟩
    · rw [st, jS_2.mpr q1, if_pos (show iI 2 = 2 from rfl), e_X11_deliver_66, a2]
      refine Eq.trans (e_X11_deliver_69 (s0 := iI 1) ..) ?_
      dsimp only
      rw [if_neg (show ¬ iI 1 = 0 by decide), s2, jS_2.mpr q2, if_pos (show iI 2 = 2 from rfl), e_X11_deliver_86, a3]
      refine Eq.trans (e_X11_deliver_89 (s0 := iI 1) ..) ?_
      rw [if_neg (show ¬ iI 1 = 0 by decide), e_X11_deliver_97, if_pos din, if_neg (by decide), e_X11_deliver_117, dn]
      rfl
    · dsimp only
      rw [mu_c _ _ _ _ (by decide), F3.1 47 7 (by decide), F2.1 47 7 (by decide)]
      exact z1
/-- a let's body is delivered -/
theorem DL_let1 {fs : List Fr} {j0 t1 : Nat} {L : List Nat} {j n : Nat} {ts : Nat → Tm} {h : mx_H} (R : RdM c len s ((35, j0, [t1], 0, 0, L) :: fs) j n ts h) (hf : fs.length < 8) {t : Nat} (t0 a0 : Int32) (a : Int) (v5 : Value) :
    (¬ jO c len j 41 = true → DL t0 a0 (t : Int) a v5 h = some (some (.int (iI (-1))), (mx_u h.1 47 7 (iI (jB c len j : Int)), h.2.1, h.2.2))) ∧
    (jO c len j 41 = true → ∃ h', DL t0 a0 (t : Int) a v5 h = DL t0 a0 (t : Int) (jB c len j0 : Int) (.int (iI (fs.length : Int))) h' ∧ RdM c len s fs (j + 1) n ts h' ∧ MdX fs.length h h' ∧ h'.1 47 7 = h.1 47 7) := by
  have dd := R.2.2.2.1
  rw [List.length_cons] at dd
  obtain ⟨f1, f2, f3, _⟩ := id R.2.2.2.2.1
  have f1 : h.1 56 fs.length = iI 35 := f1
  have f3 : h.1 58 fs.length = iI 1 := f3
  have dn : (iI (fs.length : Int)).toNatClampNeg = fs.length := by rw [ii_cl (by omega)]; exact Int.toNat_natCast _
  have din := in_t (a := (fs.length : Int)) (n := 12) (by omega)
  have st : DL t0 a0 (t : Int) a v5 h = mx_D (6, mm_X11_deliver, 216, [.ref 47, .int t0, .int a0, .int (iI ((t : Int))), .int (iI (a)), .int (iI ((fs.length : Int))), mx_junk], []) h := by
    unfold DL
    have e1 : iI ((fs.length + 1 : Nat) : Int) - 1 = iI (fs.length : Int) := (ii_sub _ 1).trans (congrArg iI (by omega))
    rw [e_X11_deliver_5, dd, if_neg (show ¬ iI ((fs.length + 1 : Nat) : Int) ≤ 0 from fun z => by have := (ii_le (b := 0) (by omega)).mp z; omega), e1, if_pos din, dn, f1, if_pos (show iI 35 = 35 from rfl), if_pos din, f3, if_neg (show ¬ iI 1 = 0 by decide), e_X11_deliver_118, if_pos din, dn, f1, if_pos (show iI 35 = 35 from rfl)]
  have D2 := DL_216 R t0 a0 (t : Int) a
  refine ⟨fun q => st.trans (D2.2 q), fun q => ?_⟩
  obtain ⟨h1, b1, R1, F1⟩ := D2.1 q
  have g1 : h1.1 56 fs.length = iI 35 := (F1.1 56 _ (by omega)).trans f1
  refine ⟨_, ?_, RdM_pop R1, MdX_t (Nat.le_refl _) (MdX_n F1) (MdX_u (by omega)), ?_⟩
  · rw [st, b1, e_X11_deliver_233, if_neg (show ¬ iI 1 = 0 by decide), if_pos din, dn, g1, if_pos (show iI 35 = 35 from rfl)]
    exact (DL_pop R1 hf t0 a0 (t : Int) a).1
  · dsimp only
    rw [mu_k _ _ (by decide)]
    exact F1.1 47 7 (by decide)
theorem hdI_b {j : Nat} {k p q : Int} {j' : Nat} (r : hdI c len j = .inr (k, p, q, j')) : (30 ≤ k ∧ k ≤ 32) ∧ (0 ≤ p ∧ p ≤ 99) ∧ (0 ≤ q ∧ q ≤ 99) ∧ (k = 30 → q ≤ p) ∧ (k ≠ 30 → q = 0) ∧ j < j' ∧ jB c len j ≤ jB c len j' := by
  unfold hdI at r
  by_cases q1 : jW c len j = some 3
  · rw [if_neg (fun z => z q1)] at r
    have a1 := adv_W1 q1
    by_cases q2 : jW c len (j + 1) = some 37 ∨ jW c len (j + 1) = some 38 ∨ jW c len (j + 1) = some 39
    · rw [if_neg (fun z => z q2)] at r
      have a2 : jB c len (j + 1) + 1 ≤ jB c len (j + 1 + 1) := by rcases q2 with z | z | z <;> exact adv_W1 z
      by_cases q3 : jU c len (j + 2) = -1
      · rw [if_pos q3] at r; cases r
      rw [if_neg q3] at r
      have a3 := jU_l q3
      by_cases q4 : jW c len (j + 1) = some 37
      · rw [if_pos q4] at r
        by_cases q5 : jU c len (j + 3) = -1 ∨ jU c len (j + 2) < jU c len (j + 3)
        · rw [if_pos q5] at r; cases r
        rw [if_neg q5] at r
        have a4 := jU_l (c := c) (len := len) (j := j + 3) (fun z => q5 (Or.inl z))
        by_cases q6 : jO c len (j + 4) 41 = true
        · rw [if_pos q6] at r
          have a5 := adv_O q6
          simp only [Sum.inr.injEq, Prod.mk.injEq] at r
          obtain ⟨rfl, rfl, rfl, rfl⟩ := r
          simp only [Nat.add_assoc, Nat.reduceAdd] at a1 a2 a3 a4 a5
          exact ⟨by omega, by omega, by omega, by omega, by omega, by omega, by omega⟩
        · rw [if_neg q6] at r; cases r
      · rw [if_neg q4] at r
        by_cases q6 : jO c len (j + 3) 41 = true
        · rw [if_pos q6] at r
          have a5 := adv_O q6
          simp only [Sum.inr.injEq, Prod.mk.injEq] at r
          obtain ⟨hk, rfl, rfl, rfl⟩ := r
          have hk : k = 31 ∨ k = 32 := by split at hk <;> omega
          simp only [Nat.add_assoc, Nat.reduceAdd] at a1 a2 a3 a5
          exact ⟨by omega, by omega, by omega, by omega, by omega, by omega, by omega⟩
        · rw [if_neg q6] at r; cases r
    · rw [if_pos q2] at r; cases r
  · rw [if_pos q1] at r; cases r
theorem hdH_b {j0 j : Nat} {fr : Fr} {j' : Nat} (r : hdH c len j0 j = .inr (fr, j')) : (fk fr = 35 ∧ fr = (35, j0, [], 0, 0, fL fr) ∧ lets4 (fL fr)) ∨ ((4 ≤ fk fr ∧ fk fr ≤ 34) ∧ fr = (fk fr, j0, [], fp fr, fq fr, []) ∧ (0 ≤ fp fr ∧ fp fr ≤ 99) ∧ (0 ≤ fq fr ∧ fq fr ≤ 99) ∧ (fk fr = 30 → fq fr ≤ fp fr) ∧ (¬ (30 ≤ fk fr ∧ fk fr ≤ 32) → fp fr = 0) ∧ (fk fr ≠ 30 → fq fr = 0)) := by
  unfold hdH at r
  by_cases q1 : jO c len j 40 = true
  · rw [if_pos q1] at r
    cases r1 : hdI c len (j + 1) with
    | inl e => rw [r1] at r; cases r
    | inr x =>
      obtain ⟨k, p, q, j1⟩ := x
      rw [r1] at r
      have b := hdI_b r1
      simp only [hdF, Sum.inr.injEq, Prod.mk.injEq] at r
      obtain ⟨rfl, rfl⟩ := r
      right
      exact ⟨by show 4 ≤ k ∧ k ≤ 34; omega, rfl, b.2.1, b.2.2.1, b.2.2.2.1, fun z => absurd b.1 z, b.2.2.2.2.1⟩
  rw [if_neg q1] at r
  by_cases q2 : kdW (jW c len j) < 0
  · rw [if_pos q2] at r; cases r
  rw [if_neg q2] at r
  by_cases q3 : jW c len j = some 10
  · rw [if_pos q3] at r
    split at r
    · cases r
    · split at r
      · cases r
      · split at r
        · cases r
        · rename_i z
          simp only [Sum.inr.injEq, Prod.mk.injEq] at r
          obtain ⟨rfl, rfl⟩ := r
          left
          exact ⟨rfl, rfl, (jN_l z).1⟩
  · rw [if_neg q3] at r
    simp only [Sum.inr.injEq, Prod.mk.injEq] at r
    obtain ⟨rfl, rfl⟩ := r
    right
    cases w : jW c len j with
    | none => rw [w] at q2; exact absurd (by decide) q2
    | some w' =>
      rw [w] at q2 q3
      have wl := jW_lt w
      have z10 : ¬ w' = 10 := fun z => q3 (by rw [z])
      have kk : kdW (some w') = (w' : Int) - 7 ∧ 11 ≤ w' ∧ ¬ (37 ≤ w' ∧ w' ≤ 39) := by
        unfold kdW at q2 ⊢
        dsimp only at q2 ⊢
        rw [if_neg z10] at q2 ⊢
        by_cases z : 11 ≤ w' ∧ ¬ (37 ≤ w' ∧ w' ≤ 39)
        · rw [if_pos z]; exact ⟨rfl, z⟩
        · rw [if_neg z] at q2; exact absurd (by decide) q2
      exact ⟨by show 4 ≤ kdW (some w') ∧ kdW (some w') ≤ 34; omega, rfl, ⟨Int.le_refl 0, by show (0 : Int) ≤ 99; decide⟩, ⟨Int.le_refl 0, by show (0 : Int) ≤ 99; decide⟩, fun _ => Int.le_refl 0, fun _ => rfl, fun _ => rfl⟩
end LP
