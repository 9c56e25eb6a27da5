/-! the reference's sorts -/
theorem jS_n0 {c : Nat → Int} {len j : Nat} (q : ¬ jS c len j = 0) : ¬ iI (jS c len j) = 0 := jS_n (k := 0) (by decide) q
theorem jS_n1 {c : Nat → Int} {len j : Nat} (q : ¬ jS c len j = 1) : ¬ iI (jS c len j) = 1 := jS_n (k := 1) (by decide) q
theorem jS_n2 {c : Nat → Int} {len j : Nat} (q : ¬ jS c len j = 2) : ¬ iI (jS c len j) = 2 := jS_n (k := 2) (by decide) q
theorem jS_n3 {c : Nat → Int} {len j : Nat} (q : ¬ jS c len j = 3) : ¬ iI (jS c len j) = 3 := jS_n (k := 3) (by decide) q
def NxB (h h' : mx_H) : Prop := (∀ a k, (a ≠ 47 ∨ (k ≠ 2 ∧ k ≠ 3 ∧ k ≠ 4 ∧ k ≠ 7)) → h'.1 a k = h.1 a k) ∧ (∀ a k, (a ≠ 47 ∨ (k ≠ 5 ∧ k ≠ 6)) → h'.2.1 a k = h.2.1 a k) ∧ h'.2.2 = h.2.2
theorem NxB_n {h h' : mx_H} (F : NxF h h') : NxB h h' := ⟨fun a k z => F.1 a k (by omega), F.2.1, F.2.2⟩
theorem NxB_t {h h1 h2 : mx_H} (a : NxB h h1) (b : NxB h1 h2) : NxB h h2 := ⟨fun x k z => by rw [b.1 x k z, a.1 x k z], fun x k z => by rw [b.2.1 x k z, a.2.1 x k z], by rw [b.2.2, a.2.2]⟩
theorem NxB_7 {h : mx_H} {x : Int32} : NxB h (mx_u h.1 47 7 x, h.2.1, h.2.2) := by
  refine ⟨fun a k z => ?_, fun a k z => rfl, rfl⟩
  dsimp only [mx_u]
  rw [if_neg (by omega)]
def RmW (c : Nat → Int) (len : Nat) (h : mx_H) (r : Nat ⊕ (Int × Nat)) (X : Option mx_O) : Prop := match r with
  | .inl e => ∃ h', X = some (some (.int (iI (-1))), h') ∧ h'.1 47 7 = iI (jB c len e : Int) ∧ NxB h h'
  | .inr (w, j') => ∃ h', X = some (some (.int (iI (w))), h') ∧ TkJ c len j' h' ∧ NxF h h'
theorem RmW_f {c : Nat → Int} {len e : Nat} {h h' : mx_H} {X : Option mx_O} (hX : X = some (some (.int (iI (-1))), (mx_u h'.1 47 7 (iI (jB c len e : Int)), h'.2.1, h'.2.2))) (F : NxF h h') : RmW c len h (.inl e) X := ⟨_, hX, by dsimp only; exact mu_s _ _ _ _, NxB_t (NxB_n F) NxB_7⟩
theorem RmW_t {c : Nat → Int} {len : Nat} {h h1 : mx_H} {r : Nat ⊕ (Int × Nat)} {X : Option mx_O} (F : NxF h h1) (O : RmW c len h1 r X) : RmW c len h r X := by
  match r, O with
  | .inl e, ⟨h', o1, o2, o3⟩ => exact ⟨h', o1, o2, NxB_t (NxB_n F) o3⟩
  | .inr (w, j'), ⟨h', o1, o2, o3⟩ => exact ⟨h', o1, o2, NxF_t F o3⟩
section MS
variable {c : Nat → Int} {len j : Nat} {h : mx_H}
/-- pass on a condition -/
theorem psc (P : Prop) (J : TkJ c len j h) (x : Int32) (h1 : P → x ≠ 0) (h0 : ¬ P → x = iI 0) : (P ∧ ∃ h', mx_C mm_X11_pass [.ref 47, .int x] h = some (some (.int (iI (1))), h') ∧ TkJ c len (j + 1) h' ∧ NxF h h') ∨ (¬ P ∧ mx_C mm_X11_pass [.ref 47, .int x] h = some (some (.int (iI (0))), (mx_u h.1 47 7 (iI (jB c len j : Int)), h.2.1, h.2.2))) := by
  by_cases q : P
  · exact Or.inl ⟨q, X11_pass_t J (h1 q)⟩
  · rw [h0 q]; exact Or.inr ⟨q, X11_pass_f J⟩
theorem X11_readWidth_c {most : Int} (hm : 1 ≤ most ∧ most ≤ 4) (J : TkJ c len j h) : RmW c len h (rdW c len most j) (mx_C mm_X11_readWidth [.ref 47, .int (iI (most))] h) := by
  rw [c_X11_readWidth, e_X11_readWidth_0]
  have f22 : ∀ h' : mx_H, mx_D (7, mm_X11_readWidth, 22, [.ref 47, .int (iI (most)), mx_junk], []) h' = some (some (.int (iI (-1))), h') := by
    intro h'
    rw [e_X11_readWidth_22]
    rfl
  have f66 : ∀ (v : Int32) (h' : mx_H), mx_D (7, mm_X11_readWidth, 66, [.ref 47, .int (iI (most)), .int v], []) h' = some (some (.int (iI (-1))), h') := by
    intro v h'
    rw [e_X11_readWidth_66, e_X11_readWidth_67]
    rfl
  unfold rdW
  by_cases q1 : jW c len j = some 3
  rotate_left
  · rw [if_pos q1, X11_word_f J (w := 3) (by decide) (by decide) (by decide) q1]
    refine RmW_f ?_ NxF_r
    refine Eq.trans (e_X11_readWidth_8 (s0 := iI 0) ..) ?_
    rw [if_pos (show iI 0 = 0 from rfl), f22]
  rw [if_neg (fun z => z q1)]
  obtain ⟨h1, a1, J1, F1⟩ := X11_word_t J (w := 3) (lo := 95) (hi := 0) (by decide) (by decide) (by decide) q1
  rw [a1]
  refine Eq.subst (motive := fun X => RmW c len h _ X) (e_X11_readWidth_8 (s0 := iI 1) ..).symm ?_
  rw [if_neg (show ¬ iI 1 = 0 by decide)]
  by_cases q2 : jW c len (j + 1) = some 1
  rotate_left
  · rw [if_pos q2, X11_word_f J1 (w := 1) (by decide) (by decide) (by decide) q2]
    refine RmW_f ?_ F1
    refine Eq.trans (e_X11_readWidth_19 (s0 := iI 0) ..) ?_
    rw [if_pos (show iI 0 = 0 from rfl), f22]
  rw [if_neg (fun z => z q2)]
  obtain ⟨h2, a2, J2, F2⟩ := X11_word_t J1 (w := 1) (lo := 109286893316418) (hi := 0) (by decide) (by decide) (by decide) q2
  rw [a2]
  refine Eq.subst (motive := fun X => RmW c len h _ X) (e_X11_readWidth_19 (s0 := iI 1) ..).symm ?_
  rw [if_neg (show ¬ iI 1 = 0 by decide), X11_number_c J2]
  refine Eq.subst (motive := fun X => RmW c len h _ X) (e_X11_readWidth_28 (s0 := iI (jU c len (j + 2))) ..).symm ?_
  have ub : jU c len (j + 2) = -1 ∨ (0 ≤ jU c len (j + 2) ∧ jU c len (j + 2) ≤ 99) := by
    by_cases z : jU c len (j + 2) = -1
    · exact Or.inl z
    · have := jU_l z; exact Or.inr (by omega)
  have i1 : mx_C mm_X11_in [.int (iI (jU c len (j + 2))), .int 1, .int (iI most)] h2 = some (some (.int (bI (decide (1 ≤ jU c len (j + 2) ∧ jU c len (j + 2) ≤ most)))), h2) := X11_in_c (b := 1) (c := most) h2 ⟨by omega, by decide, by omega⟩
  dsimp only
  rw [i1]
  refine Eq.subst (motive := fun X => RmW c len h _ X) (e_X11_readWidth_36 (s1 := bI (decide (1 ≤ jU c len (j + 2) ∧ jU c len (j + 2) ≤ most))) ..).symm ?_
  have F12 := NxF_t F1 F2
  rcases psc (1 ≤ jU c len (j + 2) ∧ jU c len (j + 2) ≤ most) J2 (bI (decide (1 ≤ jU c len (j + 2) ∧ jU c len (j + 2) ≤ most))) (fun z => by rw [decide_eq_true z]; decide) (fun z => by rw [decide_eq_false z]; rfl) with ⟨q3, h3, a3, J3, F3⟩ | ⟨q3, a3⟩
  rotate_left
  · rw [if_pos (by omega), a3]
    refine RmW_f ?_ F12
    refine Eq.trans (e_X11_readWidth_39 (s0 := iI 0) ..) ?_
    rw [if_pos (show iI 0 = 0 from rfl), f66]
  rw [if_neg (by omega), a3]
  refine Eq.subst (motive := fun X => RmW c len h _ X) (e_X11_readWidth_39 (s0 := iI 1) ..).symm ?_
  have F13 := NxF_t F12 F3
  have s3 : h3.1 47 2 = iI (jS c len (j + 3)) := J3.2.2.2.1
  rw [if_neg (show ¬ iI 1 = 0 by decide), s3]
  have st : ∀ x : Int32, mx_D (7, mm_X11_readWidth, 56, [.ref 47, .int (iI (most)), .int (iI (jU c len (j + 2)))], [.int x, .ref 47]) h3 = (mx_C mm_X11_pass [.ref 47, .int x] h3).bind (fun o => mx_D (7, mm_X11_readWidth, 59, [.ref 47, .int (iI (most)), .int (iI (jU c len (j + 2)))], o.1.toList ++ []) o.2) := fun x => e_X11_readWidth_56 ..
  by_cases q4 : jO c len (j + 3) 41 = true
  · rw [if_pos q4, jS_2.mpr q4, if_pos (show iI 2 = 2 from rfl), st]
    obtain ⟨h4, a4, J4, F4⟩ := X11_pass_t J3 (x := 1) (by decide)
    rw [a4]
    refine ⟨h4, ?_, J4, NxF_t F13 F4⟩
    refine Eq.trans (e_X11_readWidth_59 (s0 := iI 1) ..) ?_
    rw [if_neg (show ¬ iI 1 = 0 by decide), e_X11_readWidth_67]
  · rw [if_neg q4, if_neg (jS_n2 (fun z => q4 (jS_2.mp z))), st, show mx_C mm_X11_pass [.ref 47, .int 0] h3 = _ from X11_pass_f J3]
    refine RmW_f ?_ F13
    refine Eq.trans (e_X11_readWidth_59 (s0 := iI 0) ..) ?_
    rw [if_pos (show iI 0 = 0 from rfl), f66]
theorem X11_readSort_c (J : TkJ c len j h) : RmW c len h (rdS c len j) (mx_C mm_X11_readSort [.ref 47] h) := by
  have s0 : h.1 47 2 = iI (jS c len j) := J.2.2.2.1
  rw [c_X11_readSort, e_X11_readSort_0, s0]
  unfold rdS
  have w4 : ∀ (h' : mx_H) (j' : Nat), TkJ c len j' h' → RmW c len h' (rdW c len 4 j') (mx_C mm_X11_readWidth [.ref 47, .int 4] h') := fun h' j' J' => X11_readWidth_c (most := 4) (by decide) J'
  have w1 : ∀ (h' : mx_H) (j' : Nat), TkJ c len j' h' → RmW c len h' (rdW c len 1 j') (mx_C mm_X11_readWidth [.ref 47, .int 1] h') := fun h' j' J' => X11_readWidth_c (most := 1) (by decide) J'
  by_cases p3 : jS c len j = 3
  · rw [p3, if_pos (show iI 3 = 3 from rfl)]
    by_cases q0 : jW c len j = some 0
    · rw [if_pos q0]
      obtain ⟨h1, a1, J1, F1⟩ := X11_word_t J (w := 0) (lo := 1819242306) (hi := 0) (by decide) (by decide) (by decide) q0
      rw [a1]
      refine ⟨h1, ?_, J1, F1⟩
      refine Eq.trans (e_X11_readSort_16 (s0 := iI 1) ..) ?_
      rw [if_neg (show ¬ iI 1 = 0 by decide), e_X11_readSort_24]
      rfl
    · rw [if_neg q0, if_pos (fun z => by have := jS_1.mpr z; rw [p3] at this; exact absurd this (by decide)), X11_word_f J (w := 0) (by decide) (by decide) (by decide) q0]
      refine RmW_f ?_ NxF_r
      refine Eq.trans (e_X11_readSort_16 (s0 := iI 0) ..) ?_
      rw [if_pos (show iI 0 = 0 from rfl), e_X11_readSort_24]
      rfl
  rw [if_neg (jS_n3 p3), if_neg (fun z => p3 (jW_3 J z))]
  have st39 : ∀ (x : Int32) (h' : mx_H), mx_D (8, mm_X11_readSort, 39, [.ref 47, mx_junk], [.int x, .ref 47]) h' = (mx_C mm_X11_pass [.ref 47, .int x] h').bind (fun o => mx_D (8, mm_X11_readSort, 42, [.ref 47, mx_junk], o.1.toList ++ []) o.2) := fun x h' => e_X11_readSort_39 ..
  by_cases q1 : jO c len j 40 = true
  rotate_left
  · rw [if_pos q1, if_neg (jS_n1 (fun z => q1 (jS_1.mp z))), st39, show mx_C mm_X11_pass [.ref 47, .int 0] h = _ from X11_pass_f J]
    refine RmW_f ?_ NxF_r
    refine Eq.trans (e_X11_readSort_42 (s0 := iI 0) ..) ?_
    rw [if_pos (show iI 0 = 0 from rfl)]
    rfl
  rw [if_neg (fun z => z q1), jS_1.mpr q1, if_pos (show iI 1 = 1 from rfl), st39]
  obtain ⟨h1, a1, J1, F1⟩ := X11_pass_t J (x := 1) (by decide)
  rw [a1]
  refine RmW_t F1 ?_
  refine Eq.subst (motive := fun X => RmW c len h1 _ X) (e_X11_readSort_42 (s0 := iI 1) ..).symm ?_
  have s1 : h1.1 47 2 = iI (jS c len (j + 1)) := J1.2.2.2.1
  rw [if_neg (show ¬ iI 1 = 0 by decide), s1]
  simp only [lg0]
  have st75 : RmW c len h1 (rdW c len 4 (j + 1)) (mx_D (8, mm_X11_readSort, 75, [.ref 47, mx_junk], []) h1) := by
    rw [e_X11_readSort_75]
    have O := w4 h1 (j + 1) J1
    cases r : rdW c len 4 (j + 1) with
    | inl e =>
      rw [r] at O
      obtain ⟨h', o1, o⟩ := O
      rw [o1]
      exact ⟨h', (e_X11_readSort_80 ..), o⟩
    | inr x =>
      obtain ⟨w, j'⟩ := x
      rw [r] at O
      obtain ⟨h', o1, o⟩ := O
      rw [o1]
      exact ⟨h', (e_X11_readSort_80 ..), o⟩
  by_cases q2 : jW c len (j + 1) = some 2
  rotate_left
  · rw [if_pos q2]
    by_cases p4 : jS c len (j + 1) = 3
    · have cm := fun z => q2 ((jW_cmp J1 (w := 2) (lo := 521325933121) (hi := 0) (by decide) (by decide) (by decide) p4).mp z)
      rw [p4, if_pos (show iI 3 = 3 from rfl)]
      by_cases z1 : h1.2.1 47 5 = 521325933121
      · rw [if_pos z1, if_neg (fun z2 => cm ⟨z1, z2⟩)]; exact st75
      · rw [if_neg z1]; exact st75
    · rw [if_neg (jS_n3 p4)]; exact st75
  have p4 := jW_3 J1 q2
  have cm := (jW_cmp J1 (w := 2) (lo := 521325933121) (hi := 0) (by decide) (by decide) (by decide) p4).mpr q2
  rw [if_neg (fun z => z q2), p4, if_pos (show iI 3 = 3 from rfl), if_pos cm.1, if_pos cm.2]
  obtain ⟨h2, a2, J2, F2⟩ := X11_next_j J1
  rw [a2]
  refine RmW_t F2 ?_
  have f133 : ∀ h' : mx_H, mx_D (8, mm_X11_readSort, 133, [.ref 47, mx_junk], []) h' = some (some (.int (iI (-1))), h') := by
    intro h'
    rw [e_X11_readSort_133]
    rfl
  have f171 : ∀ (v : Int32) (h' : mx_H), mx_D (8, mm_X11_readSort, 171, [.ref 47, .int v], []) h' = some (some (.int (iI (-1))), h') := by
    intro v h'
    rw [e_X11_readSort_171, e_X11_readSort_172]
    rfl
  refine Eq.subst (motive := fun X => RmW c len h2 _ X) (e_X11_readSort_85 ..).symm ?_
  have s2 : h2.1 47 2 = iI (jS c len (j + 2)) := J2.2.2.2.1
  dsimp only
  rw [s2]
  have st99 : ∀ (x : Int32) (h' : mx_H), mx_D (8, mm_X11_readSort, 99, [.ref 47, mx_junk], [.int x, .ref 47]) h' = (mx_C mm_X11_pass [.ref 47, .int x] h').bind (fun o => mx_D (8, mm_X11_readSort, 102, [.ref 47, mx_junk], o.1.toList ++ []) o.2) := fun x h' => e_X11_readSort_99 ..
  by_cases q3 : jO c len (j + 2) 40 = true
  rotate_left
  · rw [if_pos q3, if_neg (jS_n1 (fun z => q3 (jS_1.mp z))), st99, show mx_C mm_X11_pass [.ref 47, .int 0] h2 = _ from X11_pass_f J2]
    refine RmW_f ?_ NxF_r
    refine Eq.trans (e_X11_readSort_102 (s0 := iI 0) ..) ?_
    rw [if_pos (show iI 0 = 0 from rfl), f133]
  rw [if_neg (fun z => z q3), jS_1.mpr q3, if_pos (show iI 1 = 1 from rfl), st99]
  obtain ⟨h3, a3, J3, F3⟩ := X11_pass_t J2 (x := 1) (by decide)
  rw [a3]
  refine RmW_t F3 ?_
  refine Eq.subst (motive := fun X => RmW c len h3 _ X) (e_X11_readSort_102 (s0 := iI 1) ..).symm ?_
  rw [if_neg (show ¬ iI 1 = 0 by decide)]
  have O1 := w1 h3 (j + 2 + 1) J3
  unfold rdS2
  rw [show j + 3 = j + 2 + 1 from rfl]
  cases r : rdW c len 1 (j + 2 + 1) with
  | inl e =>
    rw [r] at O1
    obtain ⟨h', o1, o⟩ := O1
    rw [o1]
    refine ⟨h', ?_, o⟩
    refine Eq.trans (e_X11_readSort_110 (s0 := iI (-1)) ..) ?_
    rw [if_pos (show iI (-1) < 0 by decide), f133]
  | inr x =>
    obtain ⟨w, j4⟩ := x
    rw [r] at O1
    have wb := rdW_b (e := 0) (by decide) r
    obtain ⟨h4, o1, J4, F4⟩ := O1
    rw [o1]
    refine RmW_t F4 ?_
    dsimp only
    refine Eq.subst (motive := fun X => RmW c len h4 _ X) (e_X11_readSort_110 (s0 := iI w) ..).symm ?_
    have s4 : h4.1 47 2 = iI (jS c len j4) := J4.2.2.2.1
    rw [if_neg (show ¬ iI w < 0 from fun z => by have := (ii_lt (b := 0) (by omega)).mp z; omega), s4]
    have st127 : ∀ (x : Int32) (h' : mx_H), mx_D (8, mm_X11_readSort, 127, [.ref 47, mx_junk], [.int x, .ref 47]) h' = (mx_C mm_X11_pass [.ref 47, .int x] h').bind (fun o => mx_D (8, mm_X11_readSort, 130, [.ref 47, mx_junk], o.1.toList ++ []) o.2) := fun x h' => e_X11_readSort_127 ..
    by_cases q5 : jO c len j4 40 = true
    rotate_left
    · rw [if_pos q5, if_neg (jS_n1 (fun z => q5 (jS_1.mp z))), st127, show mx_C mm_X11_pass [.ref 47, .int 0] h4 = _ from X11_pass_f J4]
      refine RmW_f ?_ NxF_r
      refine Eq.trans (e_X11_readSort_130 (s0 := iI 0) ..) ?_
      rw [if_pos (show iI 0 = 0 from rfl), f133]
    rw [if_neg (fun z => z q5), jS_1.mpr q5, if_pos (show iI 1 = 1 from rfl), st127]
    obtain ⟨h5, a5, J5, F5⟩ := X11_pass_t J4 (x := 1) (by decide)
    rw [a5]
    refine RmW_t F5 ?_
    refine Eq.subst (motive := fun X => RmW c len h5 _ X) (e_X11_readSort_130 (s0 := iI 1) ..).symm ?_
    rw [if_neg (show ¬ iI 1 = 0 by decide)]
    have O2 := w4 h5 (j4 + 1) J5
    cases r2 : rdW c len 4 (j4 + 1) with
    | inl e =>
      rw [r2] at O2
      obtain ⟨h', o1, o⟩ := O2
      rw [o1]
      refine ⟨h', ?_, o⟩
      refine Eq.trans (e_X11_readSort_140 (s0 := iI (-1)) ..) ?_
      rw [if_pos (show iI (-1) ≤ 0 by decide), f171]
    | inr x =>
      obtain ⟨w6, j6⟩ := x
      rw [r2] at O2
      have wb2 := rdW_b (e := 0) (by decide) r2
      obtain ⟨h6, o1, J6, F6⟩ := O2
      rw [o1]
      refine RmW_t F6 ?_
      dsimp only
      refine Eq.subst (motive := fun X => RmW c len h6 _ X) (e_X11_readSort_140 (s0 := iI w6) ..).symm ?_
      have s6 : h6.1 47 2 = iI (jS c len j6) := J6.2.2.2.1
      rw [if_neg (show ¬ iI w6 ≤ 0 from fun z => by have := (ii_le (b := 0) (by omega)).mp z; omega), s6]
      have st159 : ∀ (x : Int32) (h' : mx_H), mx_D (8, mm_X11_readSort, 159, [.ref 47, .int (iI w6)], [.int x, .ref 47]) h' = (mx_C mm_X11_pass [.ref 47, .int x] h').bind (fun o => mx_D (8, mm_X11_readSort, 162, [.ref 47, .int (iI w6)], o.1.toList ++ []) o.2) := fun x h' => e_X11_readSort_159 ..
      by_cases q7 : jO c len j6 41 = true
      · rw [if_pos q7, jS_2.mpr q7, if_pos (show iI 2 = 2 from rfl), st159]
        obtain ⟨h7, a7, J7, F7⟩ := X11_pass_t J6 (x := 1) (by decide)
        rw [a7]
        refine ⟨h7, ?_, J7, F7⟩
        refine Eq.trans (e_X11_readSort_162 (s0 := iI 1) ..) ?_
        rw [if_neg (show ¬ iI 1 = 0 by decide), e_X11_readSort_172, show (4 : Int32) = iI 4 from rfl, ii_add, Int.add_comm]
      · rw [if_neg q7, if_neg (jS_n2 (fun z => q7 (jS_2.mp z))), st159, show mx_C mm_X11_pass [.ref 47, .int 0] h6 = _ from X11_pass_f J6]
        refine RmW_f ?_ NxF_r
        refine Eq.trans (e_X11_readSort_162 (s0 := iI 0) ..) ?_
        rw [if_pos (show iI 0 = 0 from rfl), f171]
end MS
