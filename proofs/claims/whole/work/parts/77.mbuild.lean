/-! the reference's build; states of its reading loop -/
section FB
variable {c : Nat → Int} {len n : Nat} {ts : Nat → Tm} {h : mx_H}
theorem X11_build_c {f : Fr} {d : Nat} {A : Nat → Prop} (F : FrC c len f d h) (T : TermM n ts h.1) (hd : d ≤ 8) (hk : fk f ≤ 34) (W : WF n ts) (hn : n ≤ 100) (hl : (fps f).length = (np (fk f)).toNat) (hp : 0 ≤ fp f ∧ fp f ≤ 99) (hq : 0 ≤ fq f ∧ fq f ≤ 99) (h30 : fk f = 30 → fq f ≤ fp f) (hp0 : ¬ (30 ≤ fk f ∧ fk f ≤ 32) → fp f = 0) (hq0 : fk f ≠ 30 → fq f = 0) (ha : ∀ t, t ∈ fps f → al n ts A t) (hf : ftA (fk f) (fp f) ts (fps f)) : ∃ h', mx_C mm_X11_build [.ref 47, .int (iI ((d : Int)))] h = some (some (.int (iI ((mkI n ts (tmOf (fk f) ts (fps f) (fp f) (fq f)) : Int)))), h') ∧ TermM (mkN n ts (tmOf (fk f) ts (fps f) (fp f) (fq f))) (mkT n ts (tmOf (fk f) ts (fps f) (fp f) (fq f))) h'.1 ∧ MkF n h h' := by
  obtain ⟨f1, f2, f3, f4, f5, f6, f7, f8, f9⟩ := F
  obtain ⟨t1, t2, t3, t4, t5, t6, t7⟩ := tm_ok (k := fk f) (p := fp f) (q := fq f) (ts := ts) (ps := fps f) (A := A) (by omega) hp hq h30 hp0 hq0 W hn hl ha hf
  obtain ⟨h', a1, a2, a3⟩ := X11_make_c T (by omega) W.2 t1 (hE_nc W t1 t4)
  refine ⟨h', ?_, a2, a3⟩
  have nb := np_b (k := fk f) (by omega)
  have T2 := T.2.1
  have sl : ∀ x, x < (fps f).length → h.1 50 ((fps f).getD x 0) = iI (tS (ts ((fps f).getD x 0))) ∧ (0 ≤ tS (ts ((fps f).getD x 0)) ∧ tS (ts ((fps f).getD x 0)) ≤ 8) ∧ (fps f).getD x 0 < n := by
    intro x hx
    have lt := al_lt (ha _ (gd_mem hx))
    have := T.2.2 _ lt
    exact ⟨this.1.2.1, this.2.2.1, lt⟩
  have dn : (iI (d : Int)).toNatClampNeg = d := by rw [ii_cl (by omega)]; exact Int.toNat_natCast _
  have din := in_t (a := (d : Int)) (n := 12) (by omega)
  have e0 : (iI (3 * (d : Int))).toNatClampNeg = 3 * d := by rw [ii_cl (by omega)]; omega
  have e1 : (iI (3 * (d : Int) + 1)).toNatClampNeg = 3 * d + 1 := by rw [ii_cl (by omega)]; omega
  have e2 : (iI (3 * (d : Int) + 2)).toNatClampNeg = 3 * d + 2 := by rw [ii_cl (by omega)]; omega
  have g0 := f4 0 (by omega)
  rw [Nat.add_zero] at g0
  obtain ⟨s1, s2, s3⟩ := sl 0 (by omega)
  -- up to 62
  have px : pN (fps f) 0 = (((fps f).getD 0 0 : Nat) : Int) := pN_lt (by omega)
  have st : mx_C mm_X11_build [.ref 47, .int (iI ((d : Int)))] h = mx_D (3, mm_X11_build, 62, [.ref 47, .int (iI ((d : Int))), .int (iI (fk f)), .int (iI (np (fk f))), .int (iI (pN (fps f) 0)), .int (iI (pN (fps f) 1)), mx_junk, mx_junk, mx_junk, mx_junk], [.int (iI (pN (fps f) 2))]) h := by
    rw [c_X11_build, e_X11_build_0, if_pos din, dn, f1, X11_parts_c h (by omega)]
    refine Eq.trans (e_X11_build_11 ..) ?_
    rw [show (3 : Int32) = iI 3 from rfl, ii_mul, if_pos (in_t (n := 36) (by omega)), e0, g0, ← px]
    have s41 : ∀ y : Int, mx_D (3, mm_X11_build, 41, [.ref 47, .int (iI ((d : Int))), .int (iI (fk f)), .int (iI (np (fk f))), .int (iI (pN (fps f) 0)), mx_junk, mx_junk, mx_junk, mx_junk, mx_junk], [.int (iI (y))]) h = mx_D (3, mm_X11_build, 62, [.ref 47, .int (iI ((d : Int))), .int (iI (fk f)), .int (iI (np (fk f))), .int (iI (pN (fps f) 0)), .int (iI (y)), mx_junk, mx_junk, mx_junk, mx_junk], [.int (iI (pN (fps f) 2))]) h := by
      intro y
      rw [e_X11_build_41]
      by_cases z : np (fk f) ≤ 2
      · rw [if_pos (show iI (np (fk f)) ≤ 2 from (ii_le (b := 2) (by omega)).mpr z), (pN_ge (ps := fps f) (i := 2) (by omega)).1]
        rfl
      · rw [if_neg (show ¬ iI (np (fk f)) ≤ 2 from fun y => z ((ii_le (b := 2) (by omega)).mp y)), show (3 : Int32) = iI 3 from rfl, show (2 : Int32) = iI 2 from rfl, ii_mul, ii_add, if_pos (in_t (n := 36) (by omega)), e2, f4 2 (by omega), show pN (fps f) 2 = _ from pN_lt (by omega)]
    by_cases z : np (fk f) ≤ 1
    · rw [if_pos (show iI (np (fk f)) ≤ 1 from (ii_le (b := 1) (by omega)).mpr z), (pN_ge (ps := fps f) (i := 1) (by omega)).1]
      exact s41 (-1)
    · rw [if_neg (show ¬ iI (np (fk f)) ≤ 1 from fun y => z ((ii_le (b := 1) (by omega)).mp y)), show (1 : Int32) = iI 1 from rfl, ii_add, if_pos (in_t (n := 36) (by omega)), e1, f4 1 (by omega), ← pN_lt (by omega)]
      exact s41 _
  rw [st, e_X11_build_62, px, if_pos (in_t (n := 130) (by omega)), ii_cl (by omega), Int.toNat_natCast, s1, ← px, show mx_C mm_X11_in [.int (iI (fk f)), .int 4, .int 10] h = _ from X11_in_c (b := 4) (c := 10) h ⟨by omega, by decide, by decide⟩]
  have i2528 : mx_C mm_X11_in [.int (iI (fk f)), .int 25, .int 28] h = _ := X11_in_c (b := 25) (c := 28) h ⟨by omega, by decide, by decide⟩
  -- the end
  have fin : ∀ (so : Int) (v8 : Int32), so = tS (tmOf (fk f) ts (fps f) (fp f) (fq f)) → mx_D (3, mm_X11_build, 208, [.ref 47, .int (iI ((d : Int))), .int (iI (fk f)), .int (iI (np (fk f))), .int (iI (pN (fps f) 0)), .int (iI (pN (fps f) 1)), .int (iI (pN (fps f) 2)), .int (iI (tS (ts ((fps f).getD 0 0)))), .int v8, mx_junk], [.int (iI (so))]) h = some (some (.int (iI ((mkI n ts (tmOf (fk f) ts (fps f) (fp f) (fq f)) : Int)))), h') := by
    intro so v8 hs
    rw [e_X11_build_208, if_pos din, if_pos din, dn, f5, f6, hs, show mx_C mm_X11_make [.ref 47, .int (iI (fk f)), .int (iI (tS (tmOf (fk f) ts (fps f) (fp f) (fq f)))), .int (iI (pN (fps f) 0)), .int (iI (pN (fps f) 1)), .int (iI (pN (fps f) 2)), .int (iI (fp f)), .int (iI (fq f))] h = _ from a1]
    exact e_X11_build_235 ..
  have f94 : mx_D (3, mm_X11_build, 94, [.ref 47, .int (iI ((d : Int))), .int (iI (fk f)), .int (iI (np (fk f))), .int (iI (pN (fps f) 0)), .int (iI (pN (fps f) 1)), .int (iI (pN (fps f) 2)), .int (iI (tS (ts ((fps f).getD 0 0)))), mx_junk, mx_junk], []) h = mx_D (3, mm_X11_build, 99, [.ref 47, .int (iI ((d : Int))), .int (iI (fk f)), .int (iI (np (fk f))), .int (iI (pN (fps f) 0)), .int (iI (pN (fps f) 1)), .int (iI (pN (fps f) 2)), .int (iI (tS (ts ((fps f).getD 0 0)))), mx_junk, mx_junk], [.int (iI (1))]) h := e_X11_build_94 ..
  have tr : (4 ≤ fk f ∧ fk f ≤ 10) ∨ (25 ≤ fk f ∧ fk f ≤ 28) → mx_D (3, mm_X11_build, 99, [.ref 47, .int (iI ((d : Int))), .int (iI (fk f)), .int (iI (np (fk f))), .int (iI (pN (fps f) 0)), .int (iI (pN (fps f) 1)), .int (iI (pN (fps f) 2)), .int (iI (tS (ts ((fps f).getD 0 0)))), mx_junk, mx_junk], [.int (iI (1))]) h = some (some (.int (iI ((mkI n ts (tmOf (fk f) ts (fps f) (fp f) (fq f)) : Int)))), h') := by
    intro z
    rw [e_X11_build_99, if_neg (show ¬ iI 1 = 0 by decide)]
    exact fin 0 _ (rs_z z _ _ _ _).symm
  have st80 : ((some (some (.int (bI (decide (4 ≤ fk f ∧ fk f ≤ 10)))), h) : Option mx_O).bind fun o => mx_D (3, mm_X11_build, 80, [.ref 47, .int (iI ((d : Int))), .int (iI (fk f)), .int (iI (np (fk f))), .int (iI (pN (fps f) 0)), .int (iI (pN (fps f) 1)), .int (iI (pN (fps f) 2)), .int (iI (tS (ts ((fps f).getD 0 0)))), mx_junk, mx_junk], o.1.toList ++ []) o.2) = _ := e_X11_build_80 (s0 := bI (decide (4 ≤ fk f ∧ fk f ≤ 10))) ..
  rw [st80]
  by_cases q1 : 4 ≤ fk f ∧ fk f ≤ 10
  · rw [decide_eq_true q1, if_neg (show ¬ bI true = 0 by decide), f94, tr (Or.inl q1)]
  rw [decide_eq_false q1, if_pos (show bI false = 0 from rfl), i2528]
  refine Eq.trans (e_X11_build_91 ..) ?_
  by_cases q2 : 25 ≤ fk f ∧ fk f ≤ 28
  · rw [decide_eq_true q2, if_neg (show ¬ bI true = 0 by decide), f94, tr (Or.inr q2)]
  rw [decide_eq_false q2, if_pos (show bI false = 0 from rfl), e_X11_build_99, if_pos rfl]
  have so : tS (tmOf (fk f) ts (fps f) (fp f) (fq f)) = resS (fk f) (tS (ts ((fps f).getD 0 0))) (tS (ts ((fps f).getD 1 0))) (fp f) (fq f) := rfl
  by_cases p11 : fk f = 11
  · have nn : 1 < (fps f).length := by rw [hl, p11]; decide
    obtain ⟨u1, u2, u3⟩ := sl 1 nn
    rw [if_pos (show iI (fk f) = 11 by rw [p11]; rfl), pN_lt nn, if_pos (in_t (n := 130) (by omega)), ii_cl (by omega), Int.toNat_natCast, u1, ← pN_lt nn]
    exact fin _ _ (by rw [so, p11]; rfl)
  rw [if_neg (show ¬ iI (fk f) = 11 from fun z => p11 ((ii_eq (b := 11) (by omega) (by decide)).mp z))]
  by_cases p29 : fk f = 29
  · have nn : 1 < (fps f).length := by rw [hl, p29]; decide
    obtain ⟨u1, u2, u3⟩ := sl 1 nn
    rw [if_pos (show iI (fk f) = 29 by rw [p29]; rfl), pN_lt nn, if_pos (in_t (n := 130) (by omega)), ii_cl (by omega), Int.toNat_natCast, u1, ← pN_lt nn, ii_add]
    exact fin _ _ (by rw [so, p29]; rfl)
  rw [if_neg (show ¬ iI (fk f) = 29 from fun z => p29 ((ii_eq (b := 29) (by omega) (by decide)).mp z))]
  by_cases p30 : fk f = 30
  · rw [if_pos (show iI (fk f) = 30 by rw [p30]; rfl), if_pos din, if_pos din, dn, f5, f6, ii_sub, show (1 : Int32) = iI 1 from rfl, ii_add]
    exact fin _ _ (by rw [so, p30]; rfl)
  rw [if_neg (show ¬ iI (fk f) = 30 from fun z => p30 ((ii_eq (b := 30) (by omega) (by decide)).mp z))]
  have f181 : (fk f = 31 ∨ fk f = 32) → mx_D (3, mm_X11_build, 181, [.ref 47, .int (iI ((d : Int))), .int (iI (fk f)), .int (iI (np (fk f))), .int (iI (pN (fps f) 0)), .int (iI (pN (fps f) 1)), .int (iI (pN (fps f) 2)), .int (iI (tS (ts ((fps f).getD 0 0)))), .int 0, mx_junk], []) h = some (some (.int (iI ((mkI n ts (tmOf (fk f) ts (fps f) (fp f) (fq f)) : Int)))), h') := by
    intro z
    rw [e_X11_build_181, if_pos din, dn, f5, ii_add]
    exact fin _ _ (by rw [so, rs_g z])
  by_cases p31 : fk f = 31
  · rw [if_pos (show iI (fk f) = 31 by rw [p31]; rfl)]
    exact f181 (Or.inl p31)
  rw [if_neg (show ¬ iI (fk f) = 31 from fun z => p31 ((ii_eq (b := 31) (by omega) (by decide)).mp z))]
  by_cases p32 : fk f = 32
  · rw [if_pos (show iI (fk f) = 32 by rw [p32]; rfl)]
    exact f181 (Or.inr p32)
  rw [if_neg (show ¬ iI (fk f) = 32 from fun z => p32 ((ii_eq (b := 32) (by omega) (by decide)).mp z))]
  by_cases p33 : fk f = 33
  · rw [if_pos (show iI (fk f) = 33 by rw [p33]; rfl), show (4 : Int32) = iI 4 from rfl, ii_sub]
    exact fin _ _ (by rw [so, p33]; rfl)
  rw [if_neg (show ¬ iI (fk f) = 33 from fun z => p33 ((ii_eq (b := 33) (by omega) (by decide)).mp z))]
  refine fin _ _ ?_
  rw [so]
  by_cases p34 : fk f = 34
  · rw [p34]; rfl
  · rw [rs_d (by omega)]
end FB
section LP
variable {c : Nat → Int} {len j n : Nat} {s : Sc} {fs : List Fr} {ts : Nat → Tm} {h : mx_H}
theorem RdM_m {n' : Nat} {ts' : Nat → Tm} {h' : mx_H} (R : RdM c len s fs j n ts h) (F : MkF n h h') (T : TermM n' ts' h'.1) : RdM c len s fs j n' ts' h' := by
  have X : MdX fs.length h h' := MdX_m F
  obtain ⟨⟨⟨T1, T2, T3⟩, t1, t2, t3, t4, t5⟩, S, _, dd, G⟩ := R
  exact ⟨⟨⟨by rw [F.1 47 1 (by decide) (by omega)]; exact T1, fun i hi => by rw [F.1 48 i (by omega) (by omega)]; exact T2 i hi, T3⟩, by rw [F.1 47 3 (by decide) (by omega)]; exact t1, by rw [F.1 47 4 (by decide) (by omega)]; exact t2, by rw [F.1 47 2 (by decide) (by omega)]; exact t3, by rw [F.2]; exact t4, by rw [F.2]; exact t5⟩, ScopeM_x X S, T, by rw [F.1 47 18 (by decide) (by omega)]; exact dd, FrM_x X fs (Nat.le_refl _) G⟩
/-- a symbol token is needed for an atom -/
theorem rdA_3 (hc : ∀ i, i < len → 32 ≤ c i ∧ c i ≤ 126) {lets : List (List Nat × Nat)} (q : ¬ jS c len j = 3) : rdA c len s lets j n ts = .inl j := by
  have jl := jB_le (c := c) (len := len) j
  have tb := tE_b (c := c) jl
  have lL : (jL c len j).length = tE c len (jB c len j) - jB c len j := tkL_len _ _ _
  have w : jW c len j = none := by
    cases w : jW c len j with
    | none => rfl
    | some w' => exact absurd ((tso_w hc jl (jW_lt w)).mpr w).1 q
  have need : ∀ (hb : jB c len j < tE c len (jB c len j)) (hs : isSy (c (jB c len j)) = true) (hl : tE c len (jB c len j) - jB c len j ≤ 13), False := by
    intro hb hs hl
    have b1 : jB c len j < len := by
      apply Decidable.byContradiction
      intro x
      have : tE c len (jB c len j) = jB c len j := by unfold tE; rw [if_neg x]
      omega
    exact q ((tso_3 jl).mpr ⟨b1, hs, hl⟩)
  have d0 : ¬ 0 < jD c len j := by
    intro z
    have d := jD_l z
    have d2 : tE c len (jB c len j) - jB c len j = jD c len j + 2 := d.2.1
    have jd : jD c len j = widA c (jB c len j) (tE c len (jB c len j)) := rfl
    rw [jd] at z
    unfold widA at z
    by_cases y : 3 ≤ tE c len (jB c len j) - jB c len j ∧ tE c len (jB c len j) - jB c len j ≤ 6 ∧ c (jB c len j) = 35 ∧ c (jB c len j + 1) = 98 ∧ bitO c (tE c len (jB c len j) - jB c len j - 2) (jB c len j + 2) = true
    · exact need (by omega) (by rw [y.2.2.1]; decide) (by omega)
    · rw [if_neg y] at z; omega
  have n0 : jN c len j = 0 := by
    apply Decidable.byContradiction
    intro z
    have v := (jN_v hc).mp z
    have v1 := v.1
    have v2 := v.2.1
    have b1 : jB c len j < len := by
      apply Decidable.byContradiction
      intro x
      have : tE c len (jB c len j) = jB c len j := by unfold tE; rw [if_neg x]
      omega
    have fl := v.2.2.1 ((c (jB c len j)).toNat) (by
      unfold jL tkL
      refine List.mem_map.mpr ⟨0, List.mem_range.mpr ?_, by rw [Nat.add_zero]; rfl⟩
      show 0 < tE c len (jB c len j) - jB c len j
      omega)
    rw [Int.toNat_of_nonneg (by have := hc _ b1; omega)] at fl
    have := of_decide_eq_true fl
    exact need (by omega) (decide_eq_true (by omega)) (by omega)
  unfold rdA
  rw [w, if_neg (by intro z; cases z), if_neg (by intro z; cases z), if_neg d0, if_pos n0]
theorem rdT_h {f : Nat} {lets : List (List Nat × Nat)} (q : jO c len j 40 = true) : rdT c len s (f + 1) lets j n ts = match hdH c len j (j + 1) with
    | .inl e => .inl e
    | .inr (fr, j') => if fk fr = 35 then rdL2 c len (rdT c len s f) lets (fL fr) (rdT c len s f lets j' n ts) else rdApp c len (rdT c len s f lets) (fk fr) (fp fr) (fq fr) j' n ts := by
  have e0 : rdT c len s (f + 1) lets j n ts = if ¬ jO c len j 40 = true then rdA c len s lets j n ts
    else if jO c len (j + 1) 40 = true then rdNum c len (rdT c len s f lets) (j + 2) n ts
    else match jW c len (j + 1) with
      | none => .inl (j + 1)
      | some w => if w = 10 then rdLet c len (rdT c len s f) lets (j + 2) n ts
        else if 11 ≤ w ∧ ¬ (37 ≤ w ∧ w ≤ 39) then rdApp c len (rdT c len s f lets) ((w : Int) - 7) 0 0 (j + 2) n ts else .inl (j + 1) := rfl
  rw [e0, if_neg (fun z => z q)]
  unfold hdH
  by_cases q1 : jO c len (j + 1) 40 = true
  · rw [if_pos q1, if_pos q1, rdNum_h]
    cases r : hdI c len (j + 2) with
    | inl e => rfl
    | inr x =>
      obtain ⟨k, p, q', j'⟩ := x
      have k35 : ¬ k = 35 := by
        unfold hdI at r
        split at r
        · cases r
        · split at r
          · cases r
          · split at r
            · cases r
            · split at r
              · split at r
                · cases r
                · split at r
                  · simp only [Sum.inr.injEq, Prod.mk.injEq] at r; omega
                  · cases r
              · split at r
                · simp only [Sum.inr.injEq, Prod.mk.injEq] at r
                  have := r.1
                  split at this <;> omega
                · cases r
      show rdApp c len (rdT c len s f lets) k p q' j' n ts = if k = 35 then _ else _
      rw [if_neg k35]
      rfl
  rw [if_neg q1, if_neg q1]
  cases w : jW c len (j + 1) with
  | none => rw [if_pos (show kdW none < 0 by decide)]
  | some w' =>
    have wl := jW_lt w
    dsimp only
    by_cases q2 : w' = 10
    · rw [if_pos q2, if_neg (show ¬ kdW (some w') < 0 by rw [q2]; decide), if_pos (by rw [q2])]
      unfold rdLet
      rw [show j + 1 + 1 = j + 2 from rfl, show j + 1 + 2 = j + 2 + 1 from rfl, show j + 1 + 3 = j + 2 + 2 from rfl]
      by_cases p1 : jO c len (j + 2) 40 = true
      · rw [if_neg (c := ¬ jO c len (j + 2) 40 = true) (fun z => z p1), if_neg (c := ¬ jO c len (j + 2) 40 = true) (fun z => z p1)]
        by_cases p2 : jO c len (j + 2 + 1) 40 = true
        · rw [if_neg (c := ¬ jO c len (j + 2 + 1) 40 = true) (fun z => z p2), if_neg (c := ¬ jO c len (j + 2 + 1) 40 = true) (fun z => z p2)]
          by_cases p3 : jN c len (j + 2 + 2) = 0
          · rw [if_pos p3, if_pos p3]
          · rw [if_neg p3, if_neg p3]
            rfl
        · rw [if_pos (c := ¬ jO c len (j + 2 + 1) 40 = true) p2, if_pos (c := ¬ jO c len (j + 2 + 1) 40 = true) p2]
      · rw [if_pos (c := ¬ jO c len (j + 2) 40 = true) p1, if_pos (c := ¬ jO c len (j + 2) 40 = true) p1]
    · rw [if_neg q2]
      by_cases q3 : 11 ≤ w' ∧ ¬ (37 ≤ w' ∧ w' ≤ 39)
      · have kk : kdW (some w') = (w' : Int) - 7 := by unfold kdW; dsimp only; rw [if_neg q2, if_pos q3]
        rw [if_pos q3, kk, if_neg (by omega), if_neg (fun z => q2 (by injection z))]
        show _ = if (w' : Int) - 7 = 35 then _ else _
        rw [if_neg (by omega)]
        rfl
      · have kk : kdW (some w') = -1 := by unfold kdW; dsimp only; rw [if_neg q2, if_neg q3]
        rw [if_neg q3, kk, if_pos (by decide)]
end LP
