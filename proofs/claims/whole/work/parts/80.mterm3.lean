/-! the reference's readTerm is rdT -/
section LP
variable {c : Nat → Int} {len : Nat} {s : Sc} {A : Nat → Prop}
theorem jB_mono {a b : Nat} (h : a ≤ b) : jB c len a ≤ jB c len b := by
  induction b with
  | zero => have : a = 0 := by omega
            rw [this]; exact Nat.le_refl _
  | succ b ih =>
    by_cases q : a = b + 1
    · rw [q]; exact Nat.le_refl _
    · exact Nat.le_trans (ih (by omega)) (jB_m b)
theorem hdH_j {j0 j : Nat} {fr : Fr} {j' : Nat} (r : hdH c len j0 j = .inr (fr, j')) : j ≤ j' := by
  unfold hdH at r
  by_cases q1 : jO c len j 40 = true
  · rw [if_pos q1] at r
    cases r1 : hdI c len (j + 1) with
    | inl e => rw [r1] at r; cases r
    | inr x =>
      obtain ⟨k, p, q, j1⟩ := x
      rw [r1] at r
      have b := hdI_b r1
      simp only [hdF, Sum.inr.injEq, Prod.mk.injEq] at r
      omega
  rw [if_neg q1] at r
  by_cases q2 : kdW (jW c len j) < 0
  · rw [if_pos q2] at r; cases r
  rw [if_neg q2] at r
  by_cases q3 : jW c len j = some 10
  · rw [if_pos q3] at r
    split at r
    · cases r
    · split at r
      · cases r
      · split at r
        · cases r
        · simp only [Sum.inr.injEq, Prod.mk.injEq] at r
          omega
  · rw [if_neg q3] at r
    simp only [Sum.inr.injEq, Prod.mk.injEq] at r
    omega
theorem readTerm_m (H : NmS s) (hB : sNc s ≤ 8) : ∀ f, f ≤ 8 → IHM c len s A f := by
  intro f
  induction f with
  | zero =>
    intro _ fs j n ts h v2 v3 hf R P
    have dd := R.2.2.2.1
    refine ⟨_, ?_, FaM_7 (e := j) MdX_r R.2.2.1⟩
    unfold LH
    rw [e_X11_readTerm_7, if_pos (show iI 0 = 0 from rfl), dd, if_neg (show ¬ iI (fs.length : Int) < 8 from fun z => by have := (ii_lt (b := 8) (by omega)).mp z; omega), R.1.2.1, X11_wrong_c]
    exact (e_X11_readTerm_30 ..).trans (if_pos rfl)
  | succ f ih =>
    intro hf8 fs j n ts h v2 v3 hf R P
    have I := ih (by omega)
    have dd := R.2.2.2.1
    have s0 : h.1 47 2 = iI (jS c len j) := R.1.2.2.2.1
    have b0 : h.1 47 3 = iI (jB c len j : Int) := R.1.2.1
    have dlt : iI (fs.length : Int) < 8 := (ii_lt (b := 8) (by omega)).mpr (by omega)
    unfold LH
    rw [e_X11_readTerm_7, if_pos (show iI 0 = 0 from rfl), dd, if_pos dlt, s0, b0]
    by_cases q1 : jO c len j 40 = true
    rotate_left
    · -- an atom
      rw [if_neg (jS_n1 (fun z => q1 (jS_1.mp z)))]
      have e1 : rdT c len s (f + 1) (ltF fs) j n ts = rdA c len s (ltF fs) j n ts := if_pos q1
      rw [e1]
      have f69 : RtO c len s fs n ts j h (.inl j) (mx_D (9, mm_X11_readTerm, 69, [.ref 47, .int (iI (0)), .int (iI ((jB c len j : Int))), v3], [.int (iI (-1))]) h) := by
        refine ⟨_, ?_, FaM_7 (e := j) MdX_r R.2.2.1⟩
        rw [e_X11_readTerm_69, if_pos (by decide), e_X11_readTerm_80, show mx_C mm_X11_pass [.ref 47, .int 0] h = _ from X11_pass_f R.1]
        refine Eq.trans (e_X11_readTerm_83 (s0 := iI 0) ..) ?_
        rw [if_pos (show iI 0 = 0 from rfl)]
        rfl
      by_cases q3 : jS c len j = 3
      rotate_left
      · rw [if_neg (jS_n3 q3), rdA_3 R.1.1.2.2.2 q3]
        exact f69
      rw [q3, if_pos (show iI 3 = 3 from rfl)]
      have O := X11_atom_c R q3 H P (by omega) hB
      have K := fun t j' n' ts' e => rdA_k (c := c) (len := len) (s := s) (A := A) (lets := ltF fs) (j := j) (n := n) (ts := ts) P (t := t) (j' := j') (n' := n') (ts' := ts') e
      cases r : rdA c len s (ltF fs) j n ts with
      | inl e =>
        rw [r] at O
        have ej : e = j := by
          unfold rdA at r
          split at r
          · cases r
          · split at r
            · cases r
            · split at r
              · cases r
              · split at r
                · injection r with r; exact r.symm
                · split at r
                  · injection r with r; exact r.symm
                  · cases r
        rw [show mx_C mm_X11_atom [.ref 47] h = _ from O, ej]
        refine Eq.subst (motive := fun X => RtO c len s fs n ts j h _ X) (e_X11_readTerm_65 ..).symm ?_
        exact f69
      | inr x =>
        obtain ⟨t, j', n', ts'⟩ := x
        rw [r] at O
        obtain ⟨h1, o1, T1, F1⟩ := O
        obtain ⟨k1, k2, k3, k4, k5, k6, k7⟩ := K t j' n' ts' r
        have ej : j' = j + 1 := by
          unfold rdA mkR at r
          split at r
          · simp only [Sum.inr.injEq, Prod.mk.injEq] at r; exact r.2.1.symm
          · split at r
            · simp only [Sum.inr.injEq, Prod.mk.injEq] at r; exact r.2.1.symm
            · split at r
              · simp only [Sum.inr.injEq, Prod.mk.injEq] at r; exact r.2.1.symm
              · split at r
                · cases r
                · split at r
                  · cases r
                  · simp only [Sum.inr.injEq, Prod.mk.injEq] at r; exact r.2.1.symm
        subst ej
        have R1 := RdM_m R F1 T1
        obtain ⟨h2, a2, J2, F2⟩ := X11_pass_t R1.1 (x := 1) (by decide)
        have R2 := RdM_n R1 F2 J2
        have T2 := T1.2.1
        have tl := al_lt k2
        refine ⟨h2, iI (t : Int), iI (jB c len j : Int), mx_junk, iI (jB c len j : Int), iI (t : Int), ?_, R2, MdX_t (Nat.le_refl _) (MdX_m F1) (MdX_n F2), (F2.1 47 7 (by decide)).trans (F1.1 47 7 (by decide) (by omega))⟩
        rw [o1]
        refine Eq.trans (e_X11_readTerm_65 ..) ?_
        rw [e_X11_readTerm_69, if_neg (show ¬ iI (t : Int) < 0 from fun z => by have := (ii_lt (b := 0) (by omega)).mp z; omega), e_X11_readTerm_80]
        dsimp only
        rw [a2]
        refine Eq.trans (e_X11_readTerm_83 (s0 := iI 1) ..) ?_
        rw [if_neg (show ¬ iI 1 = 0 by decide), c_X11_deliver, e_X11_deliver_0]
        rfl
    -- a bracket
    rw [jS_1.mpr q1, if_pos (show iI 1 = 1 from rfl), rdT_h q1]
    obtain ⟨h1, a1, J1, F1⟩ := X11_next_j R.1
    have R1 := RdM_n R F1 J1
    rw [a1]
    have O := X11_readHead_c (j0 := j) R1 (by omega)
    refine Eq.subst (motive := fun X => RtO c len s fs n ts j h _ X) (e_X11_readTerm_43 ..).symm ?_
    dsimp only
    have X1 : MdX fs.length h h1 := MdX_n F1
    have z1 : h1.1 47 7 = h.1 47 7 := F1.1 47 7 (by decide)
    refine RtO_t X1 z1 (Nat.le_refl _) (fun _ _ => rfl) ?_
    cases r : hdH c len j (j + 1) with
    | inl e =>
      rw [r] at O
      obtain ⟨h2, o1, o2⟩ := O
      rw [o1]
      refine ⟨h2, ?_, o2⟩
      refine Eq.trans (e_X11_readTerm_48 (s0 := iI 0) ..) ?_
      rw [if_pos (show iI 0 = 0 from rfl)]
      rfl
    | inr x =>
      obtain ⟨fr, j'⟩ := x
      rw [r] at O
      obtain ⟨h2, o1, R2, X2, z2⟩ := O
      rw [o1]
      have hj' := hdH_j r
      have P2 : Pre c len s A (ltF fs) j' n ts := Pre_mv P (jB_mono (by omega))
      have st : ((some (some (.int (iI (1))), h2) : Option mx_O).bind fun o => mx_D (9, mm_X11_readTerm, 48, [.ref 47, .int (iI (0)), .int (iI ((jB c len j : Int))), v3], o.1.toList ++ []) o.2) = LH (.int (iI (jB c len j : Int))) v3 h2 := by
        refine Eq.trans (e_X11_readTerm_48 (s0 := iI 1) ..) ?_
        rw [if_neg (show ¬ iI 1 = 0 by decide), e_X11_readTerm_95]
        rfl
      refine Eq.subst (motive := fun X => RtO c len s fs n ts j h1 _ X) st.symm ?_
      refine RtO_t X2 z2 (Nat.le_refl _) (fun _ _ => rfl) ?_
      dsimp only
      rcases hdH_b r with ⟨k35, ef, l4⟩ | ⟨kb, ef, pb, qb, h30, hp0, hq0⟩
      · -- let
        rw [if_pos k35]
        generalize fL fr = L at ef l4
        subst ef
        have lt0 : ltF ((35, j, [], 0, 0, L) :: fs) = ltF fs := if_neg (fun z => by have : (0 : Nat) = 1 := z.2; omega)
        have O2 := I ((35, j, [], 0, 0, L) :: fs) j' n ts h2 (.int (iI (jB c len j : Int))) v3 (by rw [List.length_cons]; omega) R2 (by rw [lt0]; exact P2)
        rw [lt0] at O2
        have K := rdT_k f (ltF fs) j' n ts P2
        unfold rdL2
        cases r2 : rdT c len s f (ltF fs) j' n ts with
        | inl e =>
          rw [r2] at O2
          obtain ⟨h3, o1, o2⟩ := O2
          exact ⟨h3, o1, FaM_t (by rw [List.length_cons]; omega) MdX_r (Nat.le_refl _) (fun _ _ => rfl) o2⟩
        | inr x =>
          obtain ⟨t, j3, n3, ts3⟩ := x
          rw [r2] at O2
          obtain ⟨h3, t0, a0, v5, w2, w3, o1, R3, X3, z3⟩ := O2
          obtain ⟨k1, k2, k3, k4, k5, k6, k7⟩ := K t j3 n3 ts3 r2
          have X3 : MdX fs.length h2 h3 := MdX_d (by rw [List.length_cons]; omega) X3
          obtain ⟨d1, d2, d3⟩ := DL_let0 R3 (by omega) (t := t) t0 a0 (jB c len j' : Int) v5
          rw [o1]
          dsimp only
          refine RtO_t X3 z3 k3 k4 ?_
          by_cases p1 : jO c len j3 41 = true
          rotate_left
          · rw [if_pos p1]
            obtain ⟨h4, e1, e2⟩ := d1 p1
            rw [e1]
            exact ⟨h4, KT_f, e2⟩
          rw [if_neg (fun z => z p1)]
          by_cases p2 : jO c len (j3 + 1) 41 = true
          rotate_left
          · rw [if_pos p2]
            obtain ⟨h4, e1, e2⟩ := d2 p1 p2
            rw [e1]
            exact ⟨h4, KT_f, e2⟩
          rw [if_neg (fun z => z p2)]
          obtain ⟨h4, e1, R4, X4, z4⟩ := d3 p1 p2
          rw [e1, KT_0]
          refine RtO_t X4 z4 (Nat.le_refl _) (fun _ _ => rfl) ?_
          have lt1 : ltF ((35, j, [t], 0, 0, L) :: fs) = (L, t) :: ltF fs := if_pos ⟨rfl, rfl⟩
          have p2' := P2.2.1
          have A1 := AL_ext P2.2.2.1 k3 k4
          have jm := jB_mono (c := c) (len := len) (show j3 ≤ j3 + 2 by omega)
          have P4 : Pre c len s A ((L, t) :: ltF fs) (j3 + 2) n3 ts3 := ⟨k1, by omega, ⟨A1.1, fun p hp => by
            rcases List.mem_cons.mp hp with z | z
            · rw [z]; exact k2
            · exact A1.2 p z⟩, P2.2.2.2⟩
          have O4 := I ((35, j, [t], 0, 0, L) :: fs) (j3 + 2) n3 ts3 h4 (.int w2) (.int w3) (by rw [List.length_cons]; omega) R4 (by rw [lt1]; exact P4)
          rw [lt1] at O4
          have K4 := rdT_k f ((L, t) :: ltF fs) (j3 + 2) n3 ts3 P4
          cases r4 : rdT c len s f ((L, t) :: ltF fs) (j3 + 2) n3 ts3 with
          | inl e =>
            rw [r4] at O4
            obtain ⟨h5, o1, o2⟩ := O4
            exact ⟨h5, o1, FaM_t (by rw [List.length_cons]; omega) MdX_r (Nat.le_refl _) (fun _ _ => rfl) o2⟩
          | inr x =>
            obtain ⟨t5, j5, n5, ts5⟩ := x
            rw [r4] at O4
            obtain ⟨h5, t0', a0', v5', w2', w3', o1, R5, X5, z5⟩ := O4
            obtain ⟨m1, m2, m3, m4, m5, m6, m7⟩ := K4 t5 j5 n5 ts5 r4
            have X5 : MdX fs.length h4 h5 := MdX_d (by rw [List.length_cons]; omega) X5
            obtain ⟨g1, g2⟩ := DL_let1 R5 (by omega) (t := t5) t0' a0' (jB c len (j3 + 2) : Int) v5'
            rw [o1]
            dsimp only
            refine RtO_t X5 z5 m3 m4 ?_
            by_cases p3 : jO c len j5 41 = true
            · rw [if_pos p3]
              obtain ⟨h6, e1, R6, X6, z6⟩ := g2 p3
              rw [e1]
              exact ⟨h6, t0', a0', _, w2', w3', rfl, R6, X6, z6⟩
            · rw [if_neg p3, g1 p3, KT_f]
              exact ⟨_, rfl, FaM_7 MdX_r R5.2.2.1⟩
      · -- an operator
        rw [if_neg (show ¬ fk fr = 35 by omega)]
        generalize hk : fk fr = k at *
        generalize fp fr = p at *
        generalize fq fr = q at *
        subst ef
        have nb := np_b kb
        obtain ⟨d, hd⟩ : ∃ d, (np k).toNat = d + 1 := ⟨(np k).toNat - 1, by omega⟩
        have Q := parts_m I (q := q) (j0 := j) (by omega) kb pb d [] j' n ts h2 (.int (iI (jB c len j : Int))) v3 (by rw [hd]; simp) R2 P2 (fun t z => by cases z)
        have K := rdP_k (rdT_k f (ltF fs)) (k := k) (p := p) (d + 1) [] j' n ts P2 (fun t z => by cases z) (fun i z => by cases z)
        unfold rdApp
        rw [hd]
        cases r2 : rdP (rdT c len s f (ltF fs)) k p (d + 1) [] j' n ts with
        | inl e => rw [r2] at Q; exact Q
        | inr x =>
          obtain ⟨ps, j3, n3, ts3⟩ := x
          rw [r2] at Q
          obtain ⟨b1, b2, b3, b4, b5, b6, b7, b8, b9⟩ := K ps j3 n3 ts3 r2
          obtain ⟨h3, t0, a0, t, a, w2, w3, o1, R3, X3, z3⟩ := Q
          rw [o1]
          unfold rdF
          dsimp only
          refine RtO_t X3 z3 b5 b6 ?_
          have D2 := DL_216 R3 t0 a0 t a
          have p2' := P2.2.1
          have p3' := P2.2.2.2
          have jb := jB_le (c := c) (len := len) j3
          by_cases p1 : jO c len j3 41 = true
          · rw [if_pos p1]
            obtain ⟨h4, e1, R4, F4⟩ := D2.1 p1
            obtain ⟨h5, c1, T5, M5⟩ := X11_build_c (A := A) R4.2.2.2.2.1 R4.2.2.1 (show fs.length ≤ 8 by omega) kb.2 b4 (by omega) (show ps.length = (np k).toNat by rw [b1, hd]; simp) pb qb h30 hp0 hq0 b2 b3
            have R5 := RdM_m R4 M5 T5
            have DP := (DL_pop R5 (by omega) t0 a0 t a).2 (mkI n3 ts3 (tmOf k ts3 ps p q) : Int)
            have din := in_t (a := (fs.length : Int)) (n := 12) (by omega)
            have dn : (iI (fs.length : Int)).toNatClampNeg = fs.length := by rw [ii_cl (by omega)]; exact Int.toNat_natCast _
            have f1 : h4.1 56 fs.length = iI k := R4.2.2.2.2.1.1
            refine ⟨(mx_u h5.1 47 18 (iI (fs.length : Int)), h5.2.1, h5.2.2), t0, a0, .int (iI (fs.length : Int)), w2, w3, ?_, RdM_pop R5, MdX_t (Nat.le_refl _) (MdX_n F4) (MdX_t (Nat.le_refl _) (MdX_m M5) (MdX_u (by omega))), ?_⟩
            · rw [e1, e_X11_deliver_233, if_neg (show ¬ iI 1 = 0 by decide), if_pos din, dn, f1, if_neg (show ¬ iI k = 35 from fun z => by have := (ii_eq (b := 35) (by omega) (by decide)).mp z; omega), show mx_C mm_X11_build [.ref 47, .int (iI ((fs.length : Int)))] h4 = _ from c1]
              exact congrArg (fun x => Option.bind x (KT w2 w3)) DP
            · dsimp only
              rw [mu_k _ _ (by decide), M5.1 47 7 (by decide) (by omega)]
              exact F4.1 47 7 (by decide)
          · rw [if_neg p1, D2.2 p1, KT_f]
            exact ⟨_, rfl, FaM_7 MdX_r R3.2.2.1⟩
theorem X11_readTerm_c {j n : Nat} {ts : Nat → Tm} {h : mx_H} (H : NmS s) (hB : sNc s ≤ 8) (J : TkJ c len j h) (S : ScopeM s h) (T : TermM n ts h.1) (P : Pre c len s A [] j n ts) : (match rdT c len s 8 [] j n ts with
    | .inl e => ∃ h', mx_C mm_X11_readTerm [.ref 47] h = some (some (.int (iI (0))), h') ∧ FaM c len 0 n ts e h h'
    | .inr (t, j', n', ts') => ∃ h', mx_C mm_X11_readTerm [.ref 47] h = some (some (.int (iI (1))), h') ∧ TkJ c len j' h' ∧ TermM n' ts' h'.1 ∧ MdX 0 h h' ∧ h'.1 47 7 = h.1 47 7 ∧ h'.1 47 26 = iI (t : Int) ∧ h'.1 47 27 = iI (jB c len j : Int)) := by
  have X0 : MdX 0 h (mx_u h.1 47 18 (iI 0), h.2.1, h.2.2) := MdX_u (by omega)
  have w : ∀ b i, (b ≠ 47 ∨ i ≠ 18) → mx_u h.1 47 18 (iI 0) b i = h.1 b i := by
    intro b i z
    dsimp only [mx_u]
    rw [if_neg (by omega)]
  obtain ⟨⟨T1, T2, T3⟩, t1, t2, t3, t4, t5⟩ := J
  have R0 : RdM c len s [] j n ts (mx_u h.1 47 18 (iI 0), h.2.1, h.2.2) := ⟨⟨⟨(w 47 1 (by decide)).trans T1, fun i hi => (w 48 i (by omega)).trans (T2 i hi), T3⟩, (w 47 3 (by decide)).trans t1, (w 47 4 (by decide)).trans t2, (w 47 2 (by decide)).trans t3, t4, t5⟩, ScopeM_x X0 S, TermM_e (w 47 9 (by decide)) (fun b i p q => w b i (by omega)) T, by dsimp only; rw [mu_s]; rfl, trivial⟩
  have z0 : (mx_u h.1 47 18 (iI 0), h.2.1, h.2.2).1 47 7 = h.1 47 7 := w 47 7 (by decide)
  have st : mx_C mm_X11_readTerm [.ref 47] h = LH mx_junk mx_junk (mx_u h.1 47 18 (iI 0), h.2.1, h.2.2) := by
    rw [c_X11_readTerm, e_X11_readTerm_0]
    rfl
  rw [st]
  generalize (mx_u h.1 47 18 (iI 0), h.2.1, h.2.2) = h0 at R0 X0 z0
  have O := readTerm_m (A := A) H hB 8 (Nat.le_refl _) [] j n ts h0 mx_junk mx_junk rfl R0 P
  cases r : rdT c len s 8 [] j n ts with
  | inl e =>
    rw [show ltF [] = [] from rfl, r] at O
    obtain ⟨h', o1, o2⟩ := O
    exact ⟨h', o1, FaM_t (Nat.le_refl _) X0 (Nat.le_refl _) (fun _ _ => rfl) o2⟩
  | inr x =>
    obtain ⟨t, j', n', ts'⟩ := x
    rw [show ltF [] = [] from rfl, r] at O
    obtain ⟨h1, t0, a0, v5, w2, w3, o1, R1, X1, z1⟩ := O
    have dl : DL t0 a0 (t : Int) (jB c len j : Int) v5 h1 = some (some (.int (iI (1))), (mx_u (mx_u h1.1 47 26 (iI (t : Int))) 47 27 (iI (jB c len j : Int)), h1.2.1, h1.2.2)) := by
      unfold DL
      rw [e_X11_deliver_5, R1.2.2.2.1, if_pos (show iI (([] : List Fr).length : Int) ≤ 0 by decide)]
      rfl
    have w' : ∀ b i, (b ≠ 47 ∨ (i ≠ 26 ∧ i ≠ 27)) → mx_u (mx_u h1.1 47 26 (iI (t : Int))) 47 27 (iI (jB c len j : Int)) b i = h1.1 b i := by
      intro b i z
      dsimp only [mx_u]
      rw [if_neg (by omega), if_neg (by omega)]
    obtain ⟨⟨⟨T1, T2, T3⟩, t1, t2, t3, t4, t5⟩, S', T', _, _⟩ := R1
    refine ⟨(mx_u (mx_u h1.1 47 26 (iI (t : Int))) 47 27 (iI (jB c len j : Int)), h1.2.1, h1.2.2), by rw [o1, dl, KT_1], ⟨⟨(w' 47 1 (by decide)).trans T1, fun i hi => (w' 48 i (by omega)).trans (T2 i hi), T3⟩, (w' 47 3 (by decide)).trans t1, (w' 47 4 (by decide)).trans t2, (w' 47 2 (by decide)).trans t3, t4, t5⟩, TermM_e (w' 47 9 (by decide)) (fun b i p q => w' b i (by omega)) T', MdX_t (Nat.le_refl _) X0 (MdX_t (Nat.le_refl _) X1 (MdX_t (h1 := (mx_u h1.1 47 26 (iI (t : Int)), h1.2.1, h1.2.2)) (Nat.le_refl _) (MdX_u (by omega)) (MdX_u (by omega)))), (w' 47 7 (by decide)).trans (z1.trans z0), ?_, ?_⟩
    · dsimp only
      rw [mu_k _ _ (by decide), mu_s]
    · dsimp only
      rw [mu_s]
end LP
