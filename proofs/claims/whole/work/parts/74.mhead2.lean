/-! the reference's readIndexed and readHead -/
section RD5
variable (c : Nat → Int) (len : Nat)
/-- an indexed head behind its two brackets: kind, numbers, token -/
def hdI (j : Nat) : Nat ⊕ (Int × Int × Int × Nat) :=
  if ¬ jW c len j = some 3 then .inl j
  else if ¬ (jW c len (j + 1) = some 37 ∨ jW c len (j + 1) = some 38 ∨ jW c len (j + 1) = some 39) then .inl (j + 1)
  else if jU c len (j + 2) = -1 then .inl (j + 2)
  else if jW c len (j + 1) = some 37 then
    (if jU c len (j + 3) = -1 ∨ jU c len (j + 2) < jU c len (j + 3) then .inl (j + 3)
    else if jO c len (j + 4) 41 = true then .inr (30, jU c len (j + 2), jU c len (j + 3), j + 5) else .inl (j + 4))
  else if jO c len (j + 3) 41 = true then .inr (if jW c len (j + 1) = some 38 then 31 else 32, jU c len (j + 2), 0, j + 4) else .inl (j + 3)
/-- the same as a frame that began at token j0 -/
def hdF (j0 : Nat) (r : Nat ⊕ (Int × Int × Int × Nat)) : Nat ⊕ (Fr × Nat) := match r with
  | .inl e => .inl e
  | .inr (k, p, q, j') => .inr ((k, j0, [], p, q, []), j')
/-- a head behind its bracket -/
def hdH (j0 j : Nat) : Nat ⊕ (Fr × Nat) :=
  if jO c len j 40 = true then hdF j0 (hdI c len (j + 1))
  else if kdW (jW c len j) < 0 then .inl j
  else if jW c len j = some 10 then
    (if ¬ jO c len (j + 1) 40 = true then .inl (j + 1)
    else if ¬ jO c len (j + 2) 40 = true then .inl (j + 2)
    else if jN c len (j + 3) = 0 then .inl (j + 3)
    else .inr ((35, j0, [], 0, 0, jL c len (j + 3)), j + 4))
  else .inr ((kdW (jW c len j), j0, [], 0, 0, []), j + 1)
end RD5
theorem rdNum_h {c : Nat → Int} {len : Nat} {rd : Nat → Nat → (Nat → Tm) → Rd} {j n : Nat} {ts : Nat → Tm} : rdNum c len rd j n ts = match hdI c len j with
    | .inl e => .inl e
    | .inr (k, p, q, j') => rdApp c len rd k p q j' n ts := by
  unfold rdNum hdI
  by_cases q1 : ¬ jW c len j = some 3
  · rw [if_pos q1, if_pos q1]
  rw [if_neg q1, if_neg q1]
  by_cases q2 : ¬ (jW c len (j + 1) = some 37 ∨ jW c len (j + 1) = some 38 ∨ jW c len (j + 1) = some 39)
  · rw [if_pos q2, if_pos q2]
  rw [if_neg q2, if_neg q2]
  by_cases q3 : jU c len (j + 2) = -1
  · rw [if_pos q3, if_pos q3]
  rw [if_neg q3, if_neg q3]
  by_cases q4 : jW c len (j + 1) = some 37
  · rw [if_pos q4, if_pos q4]
    by_cases q5 : jU c len (j + 3) = -1 ∨ jU c len (j + 2) < jU c len (j + 3)
    · rw [if_pos q5, if_pos q5]
    rw [if_neg q5, if_neg q5]
    by_cases q6 : jO c len (j + 4) 41 = true
    · rw [if_pos q6, if_pos q6]
    · rw [if_neg q6, if_neg q6]
  · rw [if_neg q4, if_neg q4]
    by_cases q6 : jO c len (j + 3) 41 = true
    · rw [if_pos q6, if_pos q6]
    · rw [if_neg q6, if_neg q6]
section HD
variable {c : Nat → Int} {len j n : Nat} {s : Sc} {fs : List Fr} {ts : Nat → Tm} {h : mx_H}
theorem RhO_f {e : Nat} {h' : mx_H} {X : Option mx_O} (hX : X = some (some (.int (iI (0))), (mx_u h'.1 47 7 (iI (jB c len e : Int)), h'.2.1, h'.2.2))) (Y : MdX fs.length h h') (T : TermM n ts h'.1) : RhO c len s fs n ts h (.inl e) X := ⟨_, hX, FaM_7 Y T⟩
theorem X11_readIndexed_c {j0 : Nat} (R : RdM c len s fs j n ts h) (hf : fs.length < 8) (h61 : h.1 61 fs.length = iI 0) : RhO c len s fs n ts h (hdF j0 (hdI c len j)) (mx_C mm_X11_readIndexed [.ref 47, .int (iI ((jB c len j0 : Int)))] h) := by
  rw [c_X11_readIndexed, e_X11_readIndexed_0]
  unfold hdI
  by_cases q1 : jW c len j = some 3
  rotate_left
  · rw [if_pos q1, X11_word_f R.1 (w := 3) (by decide) (by decide) (by decide) q1]
    refine RhO_f ?_ MdX_r R.2.2.1
    refine Eq.trans (e_X11_readIndexed_8 (s0 := iI 0) ..) ?_
    rw [if_pos (show iI 0 = 0 from rfl)]
    rfl
  rw [if_neg (fun z => z q1)]
  obtain ⟨h1, a1, J1, F1⟩ := X11_word_t R.1 (w := 3) (lo := 95) (hi := 0) (by decide) (by decide) (by decide) q1
  rw [a1]
  have R1 := RdM_n R F1 J1
  have s1 : h1.1 47 2 = iI (jS c len (j + 1)) := J1.2.2.2.1
  refine RhO_t (MdX_n F1) (F1.1 47 7 (by decide)) ?_
  have g61 : h1.1 61 fs.length = iI 0 := (F1.1 61 _ (by omega)).trans h61
  clear F1 a1
  -- the kind
  have kd : ∃ v2 k : Int, (mx_D (7, mm_X11_readIndexed, 8, [.ref 47, .int (iI ((jB c len j0 : Int))), mx_junk, mx_junk, mx_junk, mx_junk], [.int (iI (1))]) h1 = mx_D (7, mm_X11_readIndexed, 119, [.ref 47, .int (iI ((jB c len j0 : Int))), .int (iI (v2)), mx_junk, mx_junk, mx_junk], [.int (iI (k))]) h1) ∧ ((k = 30 ∧ jW c len (j + 1) = some 37) ∨ (k = 31 ∧ jW c len (j + 1) = some 38) ∨ (k = 32 ∧ jW c len (j + 1) = some 39) ∨ (k = -1 ∧ ¬ (jW c len (j + 1) = some 37 ∨ jW c len (j + 1) = some 38 ∨ jW c len (j + 1) = some 39))) := by
    rw [e_X11_readIndexed_8, if_neg (show ¬ iI 1 = 0 by decide), s1]
    by_cases p3 : jS c len (j + 1) = 3
    · rw [p3, if_pos (show iI 3 = 3 from rfl), e_X11_readIndexed_26, if_neg (c := (1 : Int32) = 0) (by decide), e_X11_readIndexed_56, if_neg (c := (1 : Int32) = 0) (by decide), e_X11_readIndexed_87, if_neg (c := (1 : Int32) = 0) (by decide), e_X11_readIndexed_118]
      simp only [lg0]
      have c37 := jW_cmp J1 (w := 37) (lo := 32760367481649253) (hi := 0) (by decide) (by decide) (by decide) p3
      have c38 := jW_cmp J1 (w := 38) (lo := 8392569366170985850) (hi := 6581861) (by decide) (by decide) (by decide) p3
      have c39 := jW_cmp J1 (w := 39) (lo := 8392569366153488755) (hi := 6581861) (by decide) (by decide) (by decide) p3
      have el : ∀ (a b : Prop) [Decidable a] [Decidable b] (x y : Option mx_O), (if a then if b then x else y else y) = if a ∧ b then x else y := by
        intro a b _ _ x y
        by_cases p : a
        · by_cases q : b
          · rw [if_pos p, if_pos q, if_pos ⟨p, q⟩]
          · rw [if_pos p, if_neg q, if_neg (fun z => q z.2)]
        · rw [if_neg p, if_neg (fun z => p z.1)]
      rw [el, el, el]
      by_cases z37 : jW c len (j + 1) = some 37
      · exact ⟨1, 30, by rw [if_pos (c37.mpr z37)]; rfl, Or.inl ⟨rfl, z37⟩⟩
      rw [if_neg (fun z => z37 (c37.mp z))]
      by_cases z38 : jW c len (j + 1) = some 38
      · exact ⟨1, 31, by rw [if_pos (c38.mpr z38)]; rfl, Or.inr (Or.inl ⟨rfl, z38⟩)⟩
      rw [if_neg (fun z => z38 (c38.mp z))]
      by_cases z39 : jW c len (j + 1) = some 39
      · exact ⟨1, 32, by rw [if_pos (c39.mpr z39)]; rfl, Or.inr (Or.inr (Or.inl ⟨rfl, z39⟩))⟩
      rw [if_neg (fun z => z39 (c39.mp z))]
      exact ⟨1, -1, rfl, Or.inr (Or.inr (Or.inr ⟨rfl, fun z => z.elim z37 (fun z => z.elim z38 z39)⟩))⟩
    · rw [if_neg (jS_n3 p3), e_X11_readIndexed_26, if_pos rfl, e_X11_readIndexed_56, if_pos rfl, e_X11_readIndexed_87, if_pos rfl, e_X11_readIndexed_118]
      exact ⟨0, -1, rfl, Or.inr (Or.inr (Or.inr ⟨rfl, fun z => z.elim (fun y => p3 (jW_3 J1 y)) (fun z => z.elim (fun y => p3 (jW_3 J1 y)) (fun y => p3 (jW_3 J1 y)))⟩))⟩
  obtain ⟨v2, k, ke, kc⟩ := kd
  refine Eq.subst (motive := fun X => RhO c len s fs n ts h1 _ X) ke.symm ?_
  rw [e_X11_readIndexed_119]
  by_cases q2 : jW c len (j + 1) = some 37 ∨ jW c len (j + 1) = some 38 ∨ jW c len (j + 1) = some 39
  rotate_left
  · have kk : k = -1 := by
      rcases kc with z | z | z | z
      · exact absurd (Or.inl z.2) q2
      · exact absurd (Or.inr (Or.inl z.2)) q2
      · exact absurd (Or.inr (Or.inr z.2)) q2
      · exact z.1
    rw [if_pos q2, kk, if_pos (show iI (-1) < 0 by decide), e_X11_readIndexed_130, show mx_C mm_X11_pass [.ref 47, .int 0] h1 = _ from X11_pass_f J1]
    refine RhO_f ?_ MdX_r R1.2.2.1
    refine Eq.trans (e_X11_readIndexed_133 (s0 := iI 0) ..) ?_
    rw [if_pos (show iI 0 = 0 from rfl)]
    rfl
  have kb : 30 ≤ k ∧ k ≤ 32 := by
    rcases kc with z | z | z | z
    · omega
    · omega
    · omega
    · exact absurd q2 z.2
  rw [if_neg (fun z => z q2), if_neg (show ¬ iI k < 0 from fun z => by have := (ii_lt (b := 0) (by omega)).mp z; omega), e_X11_readIndexed_130]
  obtain ⟨h2, a2, J2, F2⟩ := X11_pass_t J1 (x := 1) (by decide)
  rw [a2]
  have R2 := RdM_n R1 F2 J2
  refine RhO_t (MdX_n F2) (F2.1 47 7 (by decide)) ?_
  have g61 : h2.1 61 fs.length = iI 0 := (F2.1 61 _ (by omega)).trans g61
  refine Eq.subst (motive := fun X => RhO c len s fs n ts h2 _ X) (e_X11_readIndexed_133 (s0 := iI 1) ..).symm ?_
  rw [if_neg (show ¬ iI 1 = 0 by decide), X11_number_c J2]
  have dd := R2.2.2.2.1
  refine Eq.subst (motive := fun X => RhO c len s fs n ts h2 _ X) (e_X11_readIndexed_142 (s0 := iI (jU c len (j + 2))) ..).symm ?_
  dsimp only
  rw [dd, if_pos (in_t (a := (fs.length : Int)) (n := 12) (by omega)), ii_cl (by omega), Int.toNat_natCast]
  have R3 := RdM_u (a := 60) (k := fs.length) (x := iI (jU c len (j + 2))) R2 (by omega)
  have X3 : MdX fs.length h2 (mx_u h2.1 60 fs.length (iI (jU c len (j + 2))), h2.2.1, h2.2.2) := MdX_u (by omega)
  have h37 : (mx_u h2.1 60 fs.length (iI (jU c len (j + 2))), h2.2.1, h2.2.2).1 47 7 = h2.1 47 7 := by dsimp only; rw [mu_c _ _ _ _ (by decide)]
  have g60 : (mx_u h2.1 60 fs.length (iI (jU c len (j + 2))), h2.2.1, h2.2.2).1 60 fs.length = iI (jU c len (j + 2)) := by dsimp only; rw [mu_s]
  have g61 : (mx_u h2.1 60 fs.length (iI (jU c len (j + 2))), h2.2.1, h2.2.2).1 61 fs.length = iI 0 := by dsimp only; rw [mu_c _ _ _ _ (by decide)]; exact g61
  generalize (mx_u h2.1 60 fs.length (iI (jU c len (j + 2))), h2.2.1, h2.2.2) = h3 at R3 X3 h37 g60 g61
  refine RhO_t X3 h37 ?_
  have J3 := R3.1
  by_cases q3 : jU c len (j + 2) = -1
  · rw [if_pos q3, q3, if_pos (show iI (-1) < 0 by decide), e_X11_readIndexed_166, show mx_C mm_X11_pass [.ref 47, .int 0] h3 = _ from X11_pass_f J3]
    refine RhO_f ?_ MdX_r R3.2.2.1
    refine Eq.trans (e_X11_readIndexed_169 (s0 := iI 0) ..) ?_
    rw [if_pos (show iI 0 = 0 from rfl)]
    rfl
  have ub := jU_l q3
  rw [if_neg q3, if_neg (show ¬ iI (jU c len (j + 2)) < 0 from fun z => by have := (ii_lt (b := 0) (by omega)).mp z; omega), e_X11_readIndexed_166]
  obtain ⟨h4, a4, J4, F4⟩ := X11_pass_t J3 (x := 1) (by decide)
  rw [a4]
  have R4 := RdM_n R3 F4 J4
  refine RhO_t (MdX_n F4) (F4.1 47 7 (by decide)) ?_
  have g60 : h4.1 60 fs.length = iI (jU c len (j + 2)) := (F4.1 60 _ (by omega)).trans g60
  have g61 : h4.1 61 fs.length = iI 0 := (F4.1 61 _ (by omega)).trans g61
  refine Eq.subst (motive := fun X => RhO c len s fs n ts h4 _ X) (e_X11_readIndexed_169 (s0 := iI 1) ..).symm ?_
  rw [if_neg (show ¬ iI 1 = 0 by decide)]
  -- the closing bracket and the push
  have fin : ∀ (q : Int) (j' : Nat) (h5 : mx_H) (v5 : Value), RdM c len s fs j' n ts h5 → h5.1 60 fs.length = iI (jU c len (j + 2)) → h5.1 61 fs.length = iI q → RhO c len s fs n ts h5 (hdF j0 (if jO c len j' 41 = true then .inr (k, jU c len (j + 2), q, j' + 1) else .inl j')) (mx_D (7, mm_X11_readIndexed, 223, [.ref 47, .int (iI ((jB c len j0 : Int))), .int (iI (v2)), .int (iI (k)), .int (iI (jU c len (j + 2))), v5], []) h5) := by
    intro q j' h5 v5 R5 e60 e61
    have s5 : h5.1 47 2 = iI (jS c len j') := R5.1.2.2.2.1
    rw [e_X11_readIndexed_223, s5]
    by_cases z : jO c len j' 41 = true
    · rw [if_pos z, jS_2.mpr z, if_pos (show iI 2 = 2 from rfl), e_X11_readIndexed_237]
      obtain ⟨h6, a6, J6, F6⟩ := X11_pass_t R5.1 (x := 1) (by decide)
      rw [a6]
      have R6 := RdM_n R5 F6 J6
      obtain ⟨h7, b1, b2, b3, b4⟩ := X11_push_c (k := k) (p := jU c len (j + 2)) (q := q) (j0 := j0) (L := []) R6 hf (by omega) ((F6.1 60 _ (by omega)).trans e60) ((F6.1 61 _ (by omega)).trans e61) (fun z => by omega)
      refine ⟨h7, ?_, b2, MdX_t (Nat.le_refl _) (MdX_n F6) b3, b4.trans (F6.1 47 7 (by decide))⟩
      refine Eq.trans (e_X11_readIndexed_240 (s0 := iI 1) ..) ?_
      rw [if_neg (show ¬ iI 1 = 0 by decide), b1]
      exact e_X11_readIndexed_251 ..
    · rw [if_neg z, if_neg (jS_n2 (fun y => z (jS_2.mp y))), e_X11_readIndexed_237, show mx_C mm_X11_pass [.ref 47, .int 0] h5 = _ from X11_pass_f R5.1]
      refine RhO_f ?_ MdX_r R5.2.2.1
      refine Eq.trans (e_X11_readIndexed_240 (s0 := iI 0) ..) ?_
      rw [if_pos (show iI 0 = 0 from rfl)]
      rfl
  by_cases q4 : jW c len (j + 1) = some 37
  rotate_left
  · have k30 : k ≠ 30 := by
      intro z
      rcases kc with y | y | y | y
      · exact q4 y.2
      · omega
      · omega
      · omega
    have ek : (if jW c len (j + 1) = some 38 then (31 : Int) else 32) = k := by
      rcases kc with y | y | y | y
      · exact absurd y.1 k30
      · rw [if_pos y.2]; exact y.1.symm
      · rw [if_neg (fun x => by rw [y.2] at x; cases x)]; exact y.1.symm
      · omega
    rw [if_neg q4, if_neg (show ¬ iI k = 30 from fun z => k30 ((ii_eq (b := 30) (by omega) (by decide)).mp z)), ek]
    exact fin 0 (j + 3) h4 mx_junk R4 g60 g61
  have k30 : k = 30 := by
    rcases kc with y | y | y | y
    · exact y.1
    · rw [y.2] at q4; cases q4
    · rw [y.2] at q4; cases q4
    · exact absurd q2 y.2
  rw [if_pos q4, if_pos (show iI k = 30 by rw [k30]; rfl), X11_number_c J4]
  refine Eq.subst (motive := fun X => RhO c len s fs n ts h4 _ X) (e_X11_readIndexed_184 (s0 := iI (jU c len (j + 3))) ..).symm ?_
  dsimp only
  rw [R4.2.2.2.1, if_pos (in_t (a := (fs.length : Int)) (n := 12) (by omega)), ii_cl (by omega), Int.toNat_natCast]
  have R5 := RdM_u (a := 61) (k := fs.length) (x := iI (jU c len (j + 3))) R4 (by omega)
  have X5 : MdX fs.length h4 (mx_u h4.1 61 fs.length (iI (jU c len (j + 3))), h4.2.1, h4.2.2) := MdX_u (by omega)
  have h57 : (mx_u h4.1 61 fs.length (iI (jU c len (j + 3))), h4.2.1, h4.2.2).1 47 7 = h4.1 47 7 := by dsimp only; rw [mu_c _ _ _ _ (by decide)]
  have g61 : (mx_u h4.1 61 fs.length (iI (jU c len (j + 3))), h4.2.1, h4.2.2).1 61 fs.length = iI (jU c len (j + 3)) := by dsimp only; rw [mu_s]
  have g60 : (mx_u h4.1 61 fs.length (iI (jU c len (j + 3))), h4.2.1, h4.2.2).1 60 fs.length = iI (jU c len (j + 2)) := by dsimp only; rw [mu_c _ _ _ _ (by decide)]; exact g60
  generalize (mx_u h4.1 61 fs.length (iI (jU c len (j + 3))), h4.2.1, h4.2.2) = h5 at R5 X5 h57 g60 g61
  refine RhO_t X5 h57 ?_
  have f214 : RhO c len s fs n ts h5 (.inl (j + 3)) (mx_D (7, mm_X11_readIndexed, 214, [.ref 47, .int (iI ((jB c len j0 : Int))), .int (iI (v2)), .int (iI (k)), .int (iI (jU c len (j + 2))), .int (iI (jU c len (j + 3)))], [.ref 47]) h5) := by
    rw [e_X11_readIndexed_214, e_X11_readIndexed_215, show mx_C mm_X11_pass [.ref 47, .int 0] h5 = _ from X11_pass_f R5.1]
    refine RhO_f ?_ MdX_r R5.2.2.1
    refine Eq.trans (e_X11_readIndexed_218 (s0 := iI 0) ..) ?_
    rw [if_pos (show iI 0 = 0 from rfl)]
    rfl
  by_cases q5 : jU c len (j + 3) = -1
  · rw [if_pos (Or.inl q5), if_pos (show iI (jU c len (j + 3)) < 0 by rw [q5]; decide)]
    exact f214
  have ub3 := jU_l q5
  rw [if_neg (show ¬ iI (jU c len (j + 3)) < 0 from fun z => by have := (ii_lt (b := 0) (by omega)).mp z; omega)]
  by_cases q6 : jU c len (j + 2) < jU c len (j + 3)
  · rw [if_pos (Or.inr q6), if_pos ((ii_lt (by omega)).mpr q6)]
    exact f214
  rw [if_neg (fun z => z.elim q5 q6), if_neg (c := iI (jU c len (j + 2)) < iI (jU c len (j + 3))) (fun z => q6 ((ii_lt (by omega)).mp z)), e_X11_readIndexed_215]
  obtain ⟨h6, a6, J6, F6⟩ := X11_pass_t R5.1 (x := 1) (by decide)
  rw [a6]
  have R6 := RdM_n R5 F6 J6
  refine RhO_t (MdX_n F6) (F6.1 47 7 (by decide)) ?_
  refine Eq.subst (motive := fun X => RhO c len s fs n ts h6 _ X) (e_X11_readIndexed_218 (s0 := iI 1) ..).symm ?_
  rw [if_neg (show ¬ iI 1 = 0 by decide)]
  have := fin (jU c len (j + 3)) (j + 4) h6 (.int (iI (jU c len (j + 3)))) R6 ((F6.1 60 _ (by omega)).trans g60) ((F6.1 61 _ (by omega)).trans g61)
  rw [k30] at this ⊢
  exact this
end HD
