/-! the class's command -/
section CM
variable {c : Nat → Int} {len N : Nat} {s : Sc} {A : Nat → Prop} {n : Nat} {ts : Nat → Tm} {h : mx_H}
theorem rdE_k {j : Nat} {r r' : Nat × List Nat × Int × Nat × Nat × (Nat → Tm)} (e : rdE c len j r = .inr r') : r' = r := by
  unfold rdE at e
  split at e
  · cases e
  · split at e
    · injection e with e; exact e.symm
    · cases e
theorem rdC_k (P : Pre c len s A [] 2 n ts) (hn : n ≤ 60) {w : Nat} {L : List Nat} {so : Int} {t n' : Nat} {ts' : Nat → Tm} (e : rdC c len s n ts = .inr (w, L, so, t, n', ts')) : (w = 4 ∨ w = 5 ∨ w = 6 ∨ w = 7) ∧ (w = 4 → lets4 L ∧ lkC s L = -1 ∧ 0 ≤ so ∧ so ≤ 8) ∧ (w = 5 → al n' ts' A t ∧ tS (ts' t) = 0) ∧ (w ≠ 5 → n' = n ∧ ts' = ts) ∧ WF n' ts' ∧ n ≤ n' ∧ (∀ i, i < n → ts' i = ts i) ∧ n' ≤ 100 := by
  unfold rdC at e
  by_cases q1 : jO c len 0 40 = true
  · rw [if_neg (fun z => z q1)] at e
    by_cases p6 : jW c len 1 = some 6
    · rw [if_pos p6] at e
      have := rdE_k e
      simp only [Prod.mk.injEq] at this
      obtain ⟨rfl, rfl, rfl, rfl, rfl, rfl⟩ := this
      exact ⟨by omega, (fun z => by cases z), (fun z => by cases z), fun _ => ⟨rfl, rfl⟩, P.1, Nat.le_refl _, fun _ _ => rfl, by omega⟩
    rw [if_neg p6] at e
    by_cases p7 : jW c len 1 = some 7
    · rw [if_pos p7] at e
      have := rdE_k e
      simp only [Prod.mk.injEq] at this
      obtain ⟨rfl, rfl, rfl, rfl, rfl, rfl⟩ := this
      exact ⟨by omega, (fun z => by cases z), (fun z => by cases z), fun _ => ⟨rfl, rfl⟩, P.1, Nat.le_refl _, fun _ _ => rfl, by omega⟩
    rw [if_neg p7] at e
    by_cases p4 : jW c len 1 = some 4
    · rw [if_pos p4] at e
      by_cases q2 : jN c len 2 = 0 ∨ ¬ lkC s (jL c len 2) = -1
      · rw [if_pos q2] at e; cases e
      rw [if_neg q2] at e
      unfold rdD at e
      cases r : rdS c len 3 with
      | inl x => rw [r] at e; cases e
      | inr x =>
        obtain ⟨so', j'⟩ := x
        rw [r] at e
        have := rdE_k e
        simp only [Prod.mk.injEq] at this
        obtain ⟨rfl, rfl, rfl, rfl, rfl, rfl⟩ := this
        have b := rdS_b r
        have nl := jN_l (c := c) (len := len) (j := 2) (fun z => q2 (Or.inl z))
        exact ⟨by omega, fun _ => ⟨nl.1, Decidable.byContradiction (fun z => q2 (Or.inr z)), b.2.2.1, b.2.2.2⟩, (fun z => by cases z), fun _ => ⟨rfl, rfl⟩, P.1, Nat.le_refl _, fun _ _ => rfl, by omega⟩
    rw [if_neg p4] at e
    by_cases p5 : jW c len 1 = some 5
    · rw [if_pos p5] at e
      unfold rdQ at e
      cases r : rdT c len s 8 [] 2 n ts with
      | inl x => rw [r] at e; cases e
      | inr x =>
        obtain ⟨t', j', n1, ts1⟩ := x
        rw [r] at e
        dsimp only at e
        by_cases q3 : tS (ts1 t') = 0
        · rw [if_pos q3] at e
          have := rdE_k e
          simp only [Prod.mk.injEq] at this
          obtain ⟨rfl, rfl, rfl, rfl, rfl, rfl⟩ := this
          obtain ⟨k1, k2, k3, k4, k5, k6, k7⟩ := rdT_k 8 [] 2 n ts P _ _ _ _ r
          have jb := jB_le (c := c) (len := len) j'
          have l := P.2.2.2
          have p2 := P.2.1
          exact ⟨by omega, (fun z => by cases z), fun _ => ⟨k2, q3⟩, fun z => absurd rfl z, k1, k3, k4, by omega⟩
        · rw [if_neg q3] at e; cases e
    rw [if_neg p5] at e
    cases e
  · rw [if_pos q1] at e; cases e
end CM
/-- what a command answers, and the scopes, terms and serial behind it where it is done -/
def cmd (c : Nat → Int) (len : Nat) (s : Sc) (n : Nat) (ts : Nat → Tm) (sr : Nat) : Int × Option (Sc × Nat × (Nat → Tm) × Nat) := match rdC c len s n ts with
  | .inl e => (-1 - (jB c len e : Int), none)
  | .inr (w, L, so, t, n', ts') => if rfs w so s n' ts' = 0 then (
      if w = 4 then (((sNc s + 1 : Nat) : Int), some (scDecl s L n' (bitsS so).toNat, n' + 1, mkT n' ts' (0, so, -1, -1, -1, (sr : Int), 0, (sBi s : Int)), sr + 1))
      else if w = 5 then (((sNa s + 1 : Nat) : Int), some (scClaim s t, n', ts', sr))
      else if w = 6 then (((sNs s + 1 : Nat) : Int), some (scOpen s, n', ts', sr))
      else (((sNs s - 1 : Nat) : Int), some (scShut s, n', ts', sr))) else (rfs w so s n' ts', none)
def CmX (h h' : mx_H) : Prop := (∀ a k, 22 ≤ a → h'.1 a k = h.1 a k) ∧ (∀ k, k ≠ 8 → h'.1 0 k = h.1 0 k) ∧ h'.1 1 1 = iI 0 ∧ h'.2.1 = h.2.1 ∧ ∀ a, a ≠ 5 → a ≠ 7 → h'.2.2 a = h.2.2 a
def CmO (s : Sc) (n : Nat) (ts : Nat → Tm) (h : mx_H) (r : Int × Option (Sc × Nat × (Nat → Tm) × Nat)) (X : Option mx_O) : Prop := match r with
  | (a, none) => ∃ h', X = some (some (.int (iI (a))), h') ∧ TermC n ts h'.1 h'.2.2 ∧ ScopeC s h'.1 ∧ h'.1 0 8 = h.1 0 8 ∧ CmX h h'
  | (a, some (s', n', ts', _)) => ∃ h', (∀ g, mx_C mm_X1_grow [.ref 28] h' = some (none, g) → X = some (some (.int (iI (a))), g)) ∧ TermC n' ts' h'.1 h'.2.2 ∧ ScopeC s' h'.1 ∧ h'.1 0 8 = iI 0 ∧ CmX h h'
section CM
variable {c : Nat → Int} {len N : Nat} {s : Sc} {A : Nat → Prop} {n : Nat} {ts : Nat → Tm} {h : mx_H}
theorem X10_command_c {sr : Nat} (B : ScB s) (T : TxtC c len h.1) (S : ScopeC s h.1) (M : TermC n ts h.1 h.2.2) (P : Pre c len s A [] 2 n ts) (hn : n ≤ 60) (hsr : sr ≤ 60) (hcb : 0 < sNs s → sCb s (sNs s - 1) ≤ sNc s ∧ sAb s (sNs s - 1) ≤ sNa s) (hnc : sNc s ≤ sBi s) : CmO s n ts h (cmd c len s n ts sr) (mx_C mm_X10_command [.ref 0] h) := by
  obtain ⟨h1, N, a1, K1, a3, a4, a5⟩ := X8_split_c T
  rw [c_X10_command, e_X10_command_0, a1, M.1]
  have T1 : TxtC c len h1.1 := TxtC_e (a3 1 1 (by omega) (by omega) (by omega)) (fun k => a3 2 k (by omega) (by omega) (by omega)) T
  have S1 : ScopeC s h1.1 := ScopeC_e (fun a k p1 p2 => a3 a k (by omega) (by omega) (by omega)) S
  have M1 : TermC n ts h1.1 h1.2.2 := TermC_e (a3 6 4 (by omega) (by omega) (by omega)) (fun a k p1 p2 => a3 a k (by omega) (by omega) (by omega)) (a5 7 (by omega)) M
  have O := X4_read_c B T1 K1 S1 M1 P
  refine Eq.subst (motive := fun X => CmO s n ts h _ X) (e_X10_command_15 ..).symm ?_
  dsimp only
  unfold cmd
  -- what all later heaps keep
  have cmx : ∀ h2 : mx_H, RdY h1 h2 → ∀ h3 : mx_H, (∀ a k, a ≠ 6 → a ≠ 0 → ¬ (7 ≤ a ∧ a ≤ 17) → (a ≠ 1 ∨ k ≠ 1) → h3.1 a k = h2.1 a k) → (∀ k, k ≠ 8 → h3.1 0 k = h2.1 0 k) → h3.1 1 1 = iI 0 → h3.2.1 = h2.2.1 → (∀ a, a ≠ 7 → h3.2.2 a = h2.2.2 a) → CmX h h3 := by
    intro h2 Y h3 b1 b2 b3 b4 b5
    refine ⟨fun a k z => ?_, fun k z => ?_, b3, ?_, fun a z1 z2 => ?_⟩
    · rw [b1 a k (by omega) (by omega) (by omega) (by omega), Y.1 a k (by omega) (by omega) (by omega) (by omega) (by omega) (by omega) (by omega) (by omega), a3 a k (by omega) (by omega) (by omega)]
    · rw [b2 k z, Y.1 0 k (by omega) (by omega) (by omega) (by omega) (by omega) (by omega) (by omega) (by omega), a3 0 k (by omega) (by omega) (by omega)]
    · rw [b4, Y.2.2.1, a4]
    · rw [b5 a z2, Y.2.2.2 a z2, a5 a z1]
  have y08 : ∀ h2 : mx_H, RdY h1 h2 → h2.1 0 8 = h.1 0 8 := fun h2 Y => by
    rw [Y.1 0 8 (by omega) (by omega) (by omega) (by omega) (by omega) (by omega) (by omega) (by omega), a3 0 8 (by omega) (by omega) (by omega)]
  have yS : ∀ h2 : mx_H, RdY h1 h2 → ScopeC s h2.1 := fun h2 Y => ScopeC_e (fun a k p1 p2 => Y.1 a k (by omega) (by omega) (by omega) (by omega) (by omega) (by omega) (by omega) (by omega)) S1
  have yT : ∀ h2 : mx_H, RdY h1 h2 → TxtC c len h2.1 ∧ TokC c len N h2.1 h2.2.2 := fun h2 Y => by
    have q : ∀ a k, a ≤ 5 → h2.1 a k = h1.1 a k := fun a k z => Y.1 a k (by omega) (by omega) (by omega) (by omega) (by omega) (by omega) (by omega) (by omega)
    exact ⟨TxtC_e (q _ _ (by omega)) (fun k => q _ _ (by omega)) T1, TokC_e (q _ _ (by omega)) (fun k => q _ _ (by omega)) (fun k => q _ _ (by omega)) (Y.2.2.2 5 (by omega)) K1⟩
  have cut : ∀ (h2 : mx_H) (n2 : Nat) (ts2 : Nat → Tm), RdY h1 h2 → TermC n2 ts2 h2.1 h2.2.2 → n ≤ n2 → (∀ i, i < n → ts2 i = ts i) → ∀ h3 : mx_H, h3 = (mx_u (mx_u h2.1 1 1 (iI 0)) 6 4 (iI (n : Int)), h2.2.1, h2.2.2) → TermC n ts h3.1 h3.2.2 ∧ ScopeC s h3.1 ∧ h3.1 0 8 = h.1 0 8 ∧ CmX h h3 := by
    intro h2 n2 ts2 Y M2 hn2 ho h3 e
    have w : ∀ a k, (a ≠ 1 ∨ k ≠ 1) → (a ≠ 6 ∨ k ≠ 4) → h3.1 a k = h2.1 a k := by
      intro a k z1 z2
      rw [e]
      dsimp only [mx_u]
      rw [if_neg (by omega), if_neg (by omega)]
    have w11 : h3.1 1 1 = iI 0 := by rw [e]; dsimp only; rw [mu_c _ _ _ _ (by omega), mu_s]
    have w64 : h3.1 6 4 = iI (n : Int) := by rw [e]; dsimp only; rw [mu_s]
    refine ⟨⟨w64, by omega, fun t ht => ?_⟩, ScopeC_e (fun a k p1 p2 => w a k (by omega) (by omega)) (yS h2 Y), (w 0 8 (by omega) (by omega)).trans (y08 h2 Y), cmx h2 Y h3 (fun a k z1 z2 z3 z4 => w a k z4 (by omega)) (fun k _ => w 0 k (by omega) (by omega)) w11 (by rw [e]) (fun a _ => by rw [e])⟩
    have x := M2.2.2 t (by omega)
    rw [ho t ht] at x
    obtain ⟨⟨b1, b2, b3, b4, b5, b6, b7⟩, d⟩ := x
    exact ⟨⟨by rw [e]; exact b1, by rw [w _ _ (by omega) (by omega)]; exact b2, by rw [w _ _ (by omega) (by omega)]; exact b3, by rw [w _ _ (by omega) (by omega)]; exact b4, by rw [w _ _ (by omega) (by omega)]; exact b5, by rw [w _ _ (by omega) (by omega)]; exact b6, by rw [w _ _ (by omega) (by omega)]; exact b7⟩, d⟩
  have p6 : ∀ (h2 : mx_H) (n2 : Nat) (ts2 : Nat → Tm), TermC n2 ts2 h2.1 h2.2.2 → TermC n2 ts2 (mx_u h2.1 1 1 (iI 0)) h2.2.2 := fun h2 n2 ts2 M2 => TermC_e (mu_c _ _ _ _ (by omega)) (fun a k p1 p2 => mu_c _ _ _ _ (by omega)) rfl M2
  cases r : rdC c len s n ts with
  | inl e =>
    rw [r] at O
    obtain ⟨h2, o1, o2, o3, ⟨n2, ts2, o4, o5, o6⟩, Y⟩ := O
    rw [o1]
    dsimp only
    obtain ⟨c1, c2, c3, c4⟩ := cut h2 n2 ts2 Y o4 o5 o6 _ rfl
    refine ⟨_, ?_, c1, c2, c3, c4⟩
    refine Eq.trans (e_X10_command_22 (s0 := none) ..) ?_
    dsimp only
    rw [o2, X8_start_c (yT h2 Y).2 (yT h2 Y).1 o3]
    refine Eq.trans (e_X10_command_37 (v2 := none) ..) ?_
    rw [X8_clear_c]
    refine Eq.trans (e_X10_command_45 (v2 := none) ..) ?_
    rw [if_pos (c := (mx_rf none : Value) = .null) rfl]
    dsimp only
    rw [X7_cut_c (h := (mx_u h2.1 1 1 (iI 0), h2.2.1, h2.2.2)) (p6 h2 n2 ts2 o4) o5]
    refine Eq.trans (e_X10_command_57 (v2 := none) ..) ?_
    simp (disch := omega) only [↓reduceIte, ii_lit, ii_add, ii_sub, ii_mul, ii_neg, ii_lt_t, ii_lt_f, ii_le_t, ii_le_f, ii_eq_t, ii_eq_f, ii_in, ii_cl, ii_shr, ii_shl, ii_and1, ii_and255, Option.bind_some, Option.toList, List.cons_append, List.nil_append, Int.toNat_natCast, mu_s, mu_c, mu_k, bI_i0, bI_i1, bI_n, nb_0, nb_1, bI_ft, bI_ff, Bool.false_eq_true, reduceCtorEq, Bool.true_eq_false, decide_true, decide_false, eq_self, Int.reduceAdd, Int.reduceSub, Int.reduceMul, Int.reduceNeg, Int.reduceToNat, tn30, tn31, tn32, tn20, tn21]
    rfl
  | inr x =>
    obtain ⟨w, L, so, t, n', ts'⟩ := x
    obtain ⟨k1, k2, k3, k4, k5, k6, k7, k8⟩ := rdC_k P hn r
    rw [r] at O
    obtain ⟨h2, o1, o2, Y, o4, o5⟩ := O
    rw [o1]
    dsimp only
    obtain ⟨fv, fe⟩ := X8_start_any (yT h2 Y).2 (h2.1 18 4)
    have hh : 1000 ≤ 1000 + w ∧ 1000 + w < 1042 := by omega
    have M2 := p6 h2 n' ts' o2
    have S2 : ScopeC s (mx_u h2.1 1 1 (iI 0)) := ScopeC_e (fun a k p1 p2 => mu_c _ _ _ _ (by omega)) (yS h2 Y)
    have RF := X10_refusal_c (h := (mx_u h2.1 1 1 (iI 0), h2.2.1, h2.2.2)) (so := so) B S2 M2 k1 (fun z => ⟨by dsimp only; rw [mu_c _ _ _ _ (by omega)]; exact (o4 z).2, (k2 z).2.2⟩)
    have st : mx_D (37, mm_X10_command, 22, [.ref 0, .int (iI ((n : Int))), mx_junk, mx_junk, mx_junk, mx_junk], [mx_rf (some (1000 + w))]) h2 = mx_D (37, mm_X10_command, 66, [.ref 0, .int (iI ((n : Int))), mx_rf (some (1000 + w)), .int fv, mx_junk, mx_junk], [.int (iI (rfs w so s n' ts'))]) (mx_u h2.1 1 1 (iI 0), h2.2.1, h2.2.2) := by
      rw [e_X10_command_22, fe]
      refine Eq.trans (e_X10_command_37 (v2 := some (1000 + w)) ..) ?_
      rw [X8_clear_c]
      refine Eq.trans (e_X10_command_45 (v2 := some (1000 + w)) ..) ?_
      rw [if_neg (c := (mx_rf (some (1000 + w)) : Value) = .null) (fun z => by cases z)]
      have RF' : mx_C mm_X10_refusal [.ref 0, mx_rf (some (1000 + w))] (mx_u h2.1 1 1 (iI 0), h2.2.1, h2.2.2) = _ := RF
      dsimp only
      rw [RF']
      rfl
    refine Eq.subst (motive := fun X => CmO s n ts h _ X) st.symm ?_
    have rb : rfs w so s n' ts' = 0 ∨ rfs w so s n' ts' = -1000 ∨ rfs w so s n' ts' = -1001 := by
      unfold rfs
      repeat' split
      all_goals first | exact Or.inl rfl | exact Or.inr (Or.inl rfl) | exact Or.inr (Or.inr rfl)
    rw [e_X10_command_66]
    by_cases q : rfs w so s n' ts' = 0
    rotate_left
    · rw [if_neg q, if_neg (show ¬ iI (rfs w so s n' ts') = 0 from fun z => q ((ii_eq (by omega) (by omega)).mp (z.trans (show (0 : Int32) = iI 0 from rfl))))]
      obtain ⟨c1, c2, c3, c4⟩ := cut h2 n' ts' Y o2 k6 k7 _ rfl
      refine ⟨_, ?_, c1, c2, c3, c4⟩
      rw [X7_cut_c (h := (mx_u h2.1 1 1 (iI 0), h2.2.1, h2.2.2)) M2 k6]
      exact e_X10_command_81 (v2 := some (1000 + w)) ..
    rw [if_pos q, q, if_pos (show iI 0 = 0 from rfl)]
    have M3 : TermC n' ts' (mx_u (mx_u h2.1 1 1 (iI 0)) 0 8 0) h2.2.2 := TermC_e (by rw [mu_c _ _ _ _ (by omega)]) (fun a k p1 p2 => by rw [mu_c _ _ _ _ (by omega)]) rfl M2
    have S3 : ScopeC s (mx_u (mx_u h2.1 1 1 (iI 0)) 0 8 0) := ScopeC_e (fun a k p1 p2 => by rw [mu_c _ _ _ _ (by omega)]) S2
    have f3 : ∀ a k, (a ≠ 1 ∨ k ≠ 1) → (a ≠ 0 ∨ k ≠ 8) → mx_u (mx_u h2.1 1 1 (iI 0)) 0 8 0 a k = h2.1 a k := by
      intro a k z1 z2
      unfold mx_u
      rw [if_neg (by omega), if_neg (by omega)]
    have f11 : mx_u (mx_u h2.1 1 1 (iI 0)) 0 8 0 1 1 = iI 0 := by rw [mu_c _ _ _ _ (by omega), mu_s]
    have f08 : mx_u (mx_u h2.1 1 1 (iI 0)) 0 8 0 0 8 = iI 0 := by rw [mu_s]; rfl
    obtain ⟨h3, hh3⟩ : ∃ h3 : mx_H, h3 = (mx_u (mx_u h2.1 1 1 (iI 0)) 0 8 0, h2.2.1, h2.2.2) := ⟨_, rfl⟩
    have M3 : TermC n' ts' h3.1 h3.2.2 := by rw [hh3]; exact M3
    have S3 : ScopeC s h3.1 := by rw [hh3]; exact S3
    have f3 : ∀ a k, (a ≠ 1 ∨ k ≠ 1) → (a ≠ 0 ∨ k ≠ 8) → h3.1 a k = h2.1 a k := by rw [hh3]; exact f3
    have f11 : h3.1 1 1 = iI 0 := by rw [hh3]; exact f11
    have f08 : h3.1 0 8 = iI 0 := by rw [hh3]; exact f08
    have fl : h3.2 = h2.2 := by rw [hh3]
    dsimp only
    rw [← hh3]
    have done : ∀ (a : Int) (s' : Sc) (n2 : Nat) (ts2 : Nat → Tm) (h4 : mx_H) (sr' : Nat), mx_C mm_X10_perform [.ref 0, .ref (1000 + w)] h3 = some (some (.int (iI (a))), h4) → TermC n2 ts2 h4.1 h4.2.2 → ScopeC s' h4.1 → (∀ a k, a ≠ 6 → ¬ (7 ≤ a ∧ a ≤ 17) → h4.1 a k = h3.1 a k) → h4.2.1 = h3.2.1 → (∀ a, a ≠ 7 → h4.2.2 a = h3.2.2 a) → CmO s n ts h (a, some (s', n2, ts2, sr')) ((mx_C mm_X10_perform [.ref 0, mx_rf (some (1000 + w))] h3).bind (fun o => mx_D (37, mm_X10_command, 94, [.ref 0, .int (iI ((n : Int))), mx_rf (some (1000 + w)), .int fv, .int (iI (0)), mx_junk], o.1.toList ++ []) o.2)) := by
      intro a s' n2 ts2 h4 sr' g1 g2 g3 g4 g5 g6
      have g1' : mx_C mm_X10_perform [.ref 0, mx_rf (some (1000 + w))] h3 = _ := g1
      rw [g1']
      refine ⟨h4, ?_, g2, g3, (g4 0 8 (by omega) (by omega)).trans f08, cmx h2 Y h4 (fun a k z1 z2 z3 z4 => by rw [g4 a k z1 z3, f3 a k z4 (by omega)]) (fun k z => by rw [g4 0 k (by omega) (by omega), f3 0 k (by omega) (by omega)]) ((g4 1 1 (by omega) (by omega)).trans f11) (by rw [g5, fl]) (fun a z => by rw [g6 a z, fl])⟩
      intro g hg
      refine Eq.trans (e_X10_command_94 (v2 := some (1000 + w)) ..) ?_
      rw [hg]
      exact e_X10_command_103 (v2 := some (1000 + w)) ..
    have st0 : mx_C mm_X10_perform [.ref 0, .ref (1000 + w)] h3 = _ := (c_X10_perform (some (1000 + w)) h3).trans (e_X10_perform_0 (v1 := 1000 + w) (hw_v1 := hh) ..)
    rcases k1 with rfl | rfl | rfl | rfl
    · obtain ⟨l1, l2, l3, l4⟩ := k2 rfl
      obtain ⟨rfl, rfl⟩ := k4 (by omega)
      have bb := bitsS_b ⟨l3, l4⟩
      have u : ¬ 8 < (sBi s : Int) + bitsS so := by
        intro z
        unfold rfs at q
        rw [if_pos (Or.inl ⟨rfl, z⟩)] at q
        omega
      rw [if_pos rfl]
      have AC := X7_addConstant_c (m := (0, so, -1, -1, -1, (sr : Int), 0, (sBi s : Int))) M3 (by omega) rfl (by
        unfold shp
        dsimp only [tk, tS, tx, ty, tz, tp, tq, to]
        refine ⟨by omega, by omega, by omega, by omega, by omega, by decide, by decide, by decide, by omega, by omega, by omega, by omega, fun _ => rfl, fun z => absurd rfl z⟩)
      obtain ⟨h4, d1, d2, d3, d4, d5, d6⟩ := AC
      have S4 : ScopeC s h4.1 := ScopeC_e (fun a k p1 p2 => d3 a k (by omega) (by omega) (by omega) (by omega)) S3
      obtain ⟨h5, x1, x2, x3, x4⟩ := X5_declare_c (L := L) (t := n') (b := (bitsS so).toNat) S4 B (by omega)
      refine done _ _ _ _ h5 _ ?_ (TermC_e (by rw [x3 6 (by omega) (by omega) (by omega)]) (fun a k p1 p2 => by rw [x3 a (by omega) (by omega) (by omega)]) (by rw [x4]) d2) x2 ?_ (by rw [x4, d5]) (fun a z => by rw [x4, d6 a z])
      · rw [st0, if_pos (by decide)]
        refine Eq.trans (e_X10_perform_8_1 (v1 := some (1000 + 4)) ..) ?_
        have e18 : h3.1 18 6 = iI so := (f3 18 6 (by omega) (by omega)).trans (o4 rfl).2
        have e185 : h3.1 18 5 = iI (beL L) := (f3 18 5 (by omega) (by omega)).trans (o4 rfl).1
        have e418 : h4.1 18 6 = iI so := (d3 18 6 (by omega) (by omega) (by omega) (by omega)).trans e18
        rw [e_X10_perform_36, S3.2.1, e18, e185, show mx_C mm_X7_addConstant [.ref 6, .int (iI ((sBi s : Int))), .int (iI (so))] h3 = _ from d1]
        refine Eq.trans (e_X10_perform_68 (v1 := some (1000 + 4)) ..) ?_
        dsimp only
        rw [e418, X10_bitsOf_c h4 ⟨l3, l4⟩]
        refine Eq.trans (e_X10_perform_78 (v1 := some (1000 + 4)) ..) ?_
        rw [show (bitsS so) = (((bitsS so).toNat : Nat) : Int) by omega, x1]
        exact e_X10_perform_81 (v1 := some (1000 + 4)) ..
      · intro a k z1 z2
        rw [x3 a (by omega) (by omega) (by omega), d3 a k (by omega) (by omega) (by omega) (by omega)]
    · have u : sNa s < 12 := by
        apply Decidable.byContradiction
        intro z
        unfold rfs at q
        rw [if_pos (Or.inr (Or.inl ⟨rfl, by omega⟩))] at q
        omega
      rw [if_neg (by decide), if_pos rfl]
      obtain ⟨h5, x1, x2, x3, x4⟩ := X5_claim_c (t := t) S3 B u
      refine done _ _ _ _ h5 _ ?_ (TermC_e (by rw [x3 6 (by omega) (by omega)]) (fun a k p1 p2 => by rw [x3 a (by omega) (by omega)]) (by rw [x4]) M3) x2 (fun a k z1 z2 => by rw [x3 a (by omega) (by omega)]) (by rw [x4]) (fun a z => by rw [x4])
      rw [st0, if_pos (by decide)]
      refine Eq.trans (e_X10_perform_8_2 (v1 := some (1000 + 5)) ..) ?_
      rw [e_X10_perform_82, (f3 18 7 (by omega) (by omega)).trans (o5 rfl), x1]
      exact e_X10_perform_96 (v1 := some (1000 + 5)) ..
    · have u : sNs s < 4 := by
        apply Decidable.byContradiction
        intro z
        unfold rfs at q
        rw [if_pos (Or.inr (Or.inr (Or.inl ⟨rfl, by omega⟩)))] at q
        omega
      rw [if_neg (by decide), if_neg (by omega), if_pos rfl]
      obtain ⟨h5, x1, x2, x3, x4⟩ := X5_open_c S3 B u
      refine done _ _ _ _ h5 _ ?_ (TermC_e (by rw [x3 6 (by omega) (by omega) (by omega) (by omega)]) (fun a k p1 p2 => by rw [x3 a (by omega) (by omega) (by omega) (by omega)]) (by rw [x4]) M3) x2 (fun a k z1 z2 => by rw [x3 a (by omega) (by omega) (by omega) (by omega)]) (by rw [x4]) (fun a z => by rw [x4])
      rw [st0, if_pos (by decide)]
      refine Eq.trans (e_X10_perform_8_3 (v1 := some (1000 + 6)) ..) ?_
      rw [e_X10_perform_97, x1]
      exact e_X10_perform_104 (v1 := some (1000 + 6)) ..
    · have u : 0 < sNs s := by
        apply Decidable.byContradiction
        intro z
        unfold rfs at q
        rw [if_pos (Or.inr (Or.inr (Or.inr ⟨rfl, by omega⟩)))] at q
        omega
      rw [if_neg (by decide), if_neg (by omega), if_neg (by omega)]
      obtain ⟨h5, x1, x2, x3, x4⟩ := X5_close_c S3 B u (hcb u).1 (hcb u).2
      refine done _ _ _ _ h5 _ ?_ (TermC_e (by rw [x3 6 (by omega)]) (fun a k p1 p2 => by rw [x3 a (by omega)]) (by rw [x4]) M3) x2 (fun a k z1 z2 => by rw [x3 a (by omega)]) (by rw [x4]) (fun a z => by rw [x4])
      rw [st0, if_pos (by decide)]
      refine Eq.trans (e_X10_perform_8_d (v1 := some (1000 + 7)) (hx := by decide) ..) ?_
      rw [e_X10_perform_105, x1]
      exact e_X10_perform_112 (v1 := some (1000 + 7)) ..
end CM
