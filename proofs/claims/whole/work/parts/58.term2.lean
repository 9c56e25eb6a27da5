/-! the class's readNumbered and readTerm -/
theorem e_X4_readTerm_79n (rk : Nat) (v1 : Int32) (h : mx_H) : mx_D (rk, mm_X4_readTerm, 79, [.ref 18, .int v1, mx_junk], [.null]) h = mx_D (rk, mm_X4_readTerm, 111, [.ref 18, .int v1, .null], []) h := by
  refine Eq.trans (q_astore_n (L' := [.ref 18, .int v1, .null]) dX4_readTerm_79 rfl (Nat.le_of_ble_eq_true rfl) rfl) ?_
  refine Eq.trans (q_aload_n dX4_readTerm_80 rfl rfl) ?_
  refine Eq.trans (q_gets dX4_readTerm_81 mx_sta_4_147) ?_
  refine Eq.trans (q_acmp_ne 93 dX4_readTerm_84 rfl rfl rfl) ?_
  rw [if_neg (fun z => by cases z)]
  refine Eq.trans (q_aload_n dX4_readTerm_93 rfl rfl) ?_
  refine Eq.trans (q_ifnull 111 dX4_readTerm_94 rfl rfl) ?_
  rw [if_pos rfl]
theorem e_X4_readNumbered_33n (rk : Nat) (v1 : Int32) (h : mx_H) : mx_D (rk, mm_X4_readNumbered, 33, [.ref 18, .int v1, mx_junk, mx_junk, mx_junk], [.null]) h = mx_D (rk, mm_X4_readNumbered, 45, [.ref 18, .int v1, .null, mx_junk, mx_junk], []) h := by
  refine Eq.trans (q_astore_n (L' := [.ref 18, .int v1, .null, mx_junk, mx_junk]) dX4_readNumbered_33 rfl (Nat.le_of_ble_eq_true rfl) rfl) ?_
  refine Eq.trans (q_aload_n dX4_readNumbered_34 rfl rfl) ?_
  refine Eq.trans (q_ifnull 45 dX4_readNumbered_35 rfl rfl) ?_
  rw [if_pos rfl]
theorem jU_ne {c : Nat → Int} {len j : Nat} (q : ¬ jU c len j = -1) : ¬ iI (jU c len j) = -1 := by
  intro z
  have b := jU_l q
  have := (ii_eq (by omega) (by omega)).mp (z.trans (show (-1 : Int32) = iI (-1) from rfl))
  omega
section RC
variable {c : Nat → Int} {len N : Nat} {s : Sc} {A : Nat → Prop} {lets : List (List Nat × Nat)}
theorem X4_readNumbered_c {L f j n : Nat} {ts : Nat → Tm} {h : mx_H} (I : IHT c len N s A (L + 1) f) (hL : 1 ≤ L ∧ L ≤ 8) (hl : lets.length + 1 ≤ L) (R : RdC c len N s lets j n ts h) (P : Pre c len s A lets j n ts) (hj : j + 1 ≤ 5 + jB c len (j + 1)) : RdO c len N s lets L h n ts (rdNum c len (rdT c len s f lets) (j + 1) n ts) (mx_C mm_X4_readNumbered [.ref 18, .int (iI ((L : Int)))] h) := by
  obtain ⟨rk, hrk⟩ : ∃ rk, rk = 6 + 3 * (9 - L) := ⟨_, rfl⟩
  have rl : ∀ (m : mx_M) (as : List Value), m.2.1 = false → m.1 < 5 → mx_rank m as < rk := fun m as => rk_l (by omega)
  have rP : ∀ (v : Value) (a b : Int32), mx_rank mm_X4_readParts [.ref 18, v, .int a, .int b, .int (iI ((L : Int)))] < rk := fun v a b => by rw [rk_P (by omega)]; omega
  have len1 := P.2.2.2
  have jb := fun j => jB_le (c := c) (len := len) j
  have j1 := jb (j + 1)
  have m0 := jB_m (c := c) (len := len) j
  rw [c_X4_readNumbered, rk_N (by omega), ← hrk, e_X4_readNumbered_0 (hr0 := rl _ _ rfl (by decide)), R.2.2.2.2.1, ii_s1]
  have R1 := RdC_3 (j + 1) R
  have X1 : RdX L lets.length h (mx_u h.1 18 3 (iI ((j + 1 : Nat) : Int)), h.2.1, h.2.2) := RdX_3
  generalize (mx_u h.1 18 3 (iI ((j + 1 : Nat) : Int)), h.2.1, h.2.2) = h1 at R1 X1
  unfold rdNum
  by_cases q1 : jW c len (j + 1) = some 3
  rotate_left
  · rw [if_pos q1]
    have b1 : mx_C mm_X4_word [.ref 18, .ref 1003] h1 = _ := X4_word_f R1 (by omega) (w := 3) (by decide) q1
    rw [b1]
    refine RdO_f ?_ (by omega) R1 (Nat.le_refl _) (fun _ _ => rfl) X1
    refine Eq.trans (e_X4_readNumbered_17 (hr0 := rl _ _ rfl (by decide)) ..) ?_
    rw [if_pos (show iI 0 = 0 from rfl)]
    rfl
  rw [if_neg (fun z => z q1)]
  have a1 := adv_W1 q1
  have b1 : mx_C mm_X4_word [.ref 18, .ref 1003] h1 = _ := X4_word_t R1 (by omega) (w := 3) (by decide) q1
  rw [b1]
  have R2 := RdC_3 (j + 1 + 1) R1
  have X2 : RdX L lets.length h (mx_u h1.1 18 3 (iI ((j + 1 + 1 : Nat) : Int)), h1.2.1, h1.2.2) := RdX_t (Nat.le_refl _) (Nat.le_refl _) X1 RdX_3
  generalize (mx_u h1.1 18 3 (iI ((j + 1 + 1 : Nat) : Int)), h1.2.1, h1.2.2) = h2 at R2 X2
  refine Eq.subst (motive := fun X => RdO c len N s lets L h n ts _ X) (e_X4_readNumbered_17 (hr0 := rl _ _ rfl (by decide)) ..).symm ?_
  have j2 := jb (j + 1 + 1)
  rw [if_neg (show ¬ iI 1 = 0 by decide), R2.2.2.2.2.1, X8_wordAt_c R2.2.1 (by omega)]
  have f45 : ∀ v2 : Option Nat, mx_D (rk, mm_X4_readNumbered, 45, [.ref 18, .int (iI ((L : Int))), mx_rf v2, mx_junk, mx_junk], []) h2 = some (some (.int (iI (-1))), (mx_u h2.1 18 4 (iI ((j + 1 + 1 : Nat) : Int)), h2.2.1, h2.2.2)) := by
    intro v2
    rw [e_X4_readNumbered_45 (hr0 := rl _ _ rfl (by decide)), R2.2.2.2.2.1, X4_noTermAt_c]
    exact e_X4_readNumbered_53 ..
  cases w2 : jW c len (j + 1 + 1) with
  | none =>
    rw [if_pos (by intro z; rcases z with z | z | z <;> cases z)]
    refine RdO_f ?_ (by omega) R2 (Nat.le_refl _) (fun _ _ => rfl) X2
    have : wdx c (tB c len (j + 1 + 1)) (tE c len (tB c len (j + 1 + 1))) = none := w2
    rw [this]
    exact (e_X4_readNumbered_33n rk (iI (L : Int)) h2).trans (f45 none)
  | some w =>
    have wl := jW_lt w2
    have hh : 1000 ≤ 1000 + w ∧ 1000 + w < 1042 := by omega
    have : wdx c (tB c len (j + 1 + 1)) (tE c len (tB c len (j + 1 + 1))) = some w := w2
    rw [this]
    refine Eq.subst (motive := fun X => RdO c len N s lets L h n ts _ X) (e_X4_readNumbered_33 (s0 := 1000 + w) (hw_s0 := hh) (hr0 := rl _ _ rfl (by decide)) ..).symm ?_
    rw [if_neg (c := (.ref (1000 + w) : Value) = .null) (fun z => by cases z), X9_takesNumbers_c h2 wl]
    refine Eq.subst (motive := fun X => RdO c len N s lets L h n ts _ X) (e_X4_readNumbered_42 (v2 := some (1000 + w)) (s0 := bI (decide (37 ≤ w ∧ w ≤ 39))) (hr0 := rl _ _ rfl (by decide)) ..).symm ?_
    by_cases q2 : 37 ≤ w ∧ w ≤ 39
    rotate_left
    · rw [if_pos (by intro z; rcases z with z | z | z <;> (injection z with z; omega)), decide_eq_false q2, if_pos (show bI false = 0 from rfl)]
      exact RdO_f (f45 (some (1000 + w))) (by omega) R2 (Nat.le_refl _) (fun _ _ => rfl) X2
    have q2' : some w = some 37 ∨ some w = some 38 ∨ some w = some 39 := by
      have : w = 37 ∨ w = 38 ∨ w = 39 := by omega
      rcases this with rfl | rfl | rfl
      · exact Or.inl rfl
      · exact Or.inr (Or.inl rfl)
      · exact Or.inr (Or.inr rfl)
    have a2 := adv_W1 w2
    rw [if_neg (fun z => z q2'), decide_eq_true q2, if_neg (show ¬ bI true = 0 by decide), mu_s, R2.2.2.2.2.1, ii_s1]
    have R3 := RdC_3 (j + 1 + 1 + 1) R2
    have X3 : RdX L lets.length h (mx_u h2.1 18 3 (iI ((j + 1 + 1 + 1 : Nat) : Int)), h2.2.1, h2.2.2) := RdX_t (Nat.le_refl _) (Nat.le_refl _) X2 RdX_3
    generalize (mx_u h2.1 18 3 (iI ((j + 1 + 1 + 1 : Nat) : Int)), h2.2.1, h2.2.2) = h3 at R3 X3
    have j3 := jb (j + 1 + 1 + 1)
    rw [X8_numberAt_c R3.2.1 R3.1 (by omega)]
    have wr : mx_wr (mx_rf (some (1000 + w))) = true := decide_eq_true (p := 1000 ≤ 1000 + w ∧ 1000 + w < 1042) hh
    refine Eq.subst (motive := fun X => RdO c len N s lets L h n ts _ X) (e_X4_readNumbered_75 (v2 := some (1000 + w)) (s0 := iI (jU c len (j + 1 + 2))) (hq0 := wr) (hr1 := rl _ _ rfl (by decide)) (hr2 := rl _ _ rfl (by decide)) ..).symm ?_
    by_cases q3 : jU c len (j + 1 + 2) = -1
    · rw [if_pos q3, q3, if_pos (show iI (-1) = -1 from rfl), R3.2.2.2.2.1, X4_noTermAt_c]
      refine RdO_f ?_ (by omega) R3 (Nat.le_refl _) (fun _ _ => rfl) X3
      exact e_X4_readNumbered_89 ..
    rw [if_neg q3, if_neg (jU_ne q3)]
    have a3 := jU_l q3
    rw [mu_s, R3.2.2.2.2.1, ii_s1]
    have R4 := RdC_3 (j + 1 + 1 + 1 + 1) R3
    have X4 : RdX L lets.length h (mx_u h3.1 18 3 (iI ((j + 1 + 1 + 1 + 1 : Nat) : Int)), h3.2.1, h3.2.2) := RdX_t (Nat.le_refl _) (Nat.le_refl _) X3 RdX_3
    generalize (mx_u h3.1 18 3 (iI ((j + 1 + 1 + 1 + 1 : Nat) : Int)), h3.2.1, h3.2.2) = h4 at R4 X4
    have j4 := jb (j + 1 + 1 + 1 + 1)
    have tail : ∀ (k q : Int) (j' : Nat) (h' : mx_H), (w : Int) = k + 7 → 4 ≤ k ∧ k ≤ 34 → (30 ≤ k ∧ k ≤ 32) → (0 ≤ q ∧ q ≤ 99) → (k = 30 → q ≤ jU c len (j + 1 + 2)) → (k ≠ 30 → q = 0) → RdC c len N s lets j' n ts h' → RdX L lets.length h h' → j' ≤ 5 + jB c len j' → jB c len j ≤ jB c len j' → RdO c len N s lets L h n ts (if jO c len j' 41 = true then rdApp c len (rdT c len s f lets) k (jU c len (j + 1 + 2)) q (j' + 1) n ts else .inl j') (mx_D (rk, mm_X4_readNumbered, 154, [.ref 18, .int (iI ((L : Int))), .ref (1000 + w), .int (iI (jU c len (j + 1 + 2))), .int (iI (q))], []) h') := by
      intro k q j' h' e1 e2 e3 e4 e5 e6 R' X' hj' hm
      refine Eq.subst (motive := fun X => RdO c len N s lets L h n ts _ X) (e_X4_readNumbered_154 (v2 := some (1000 + w)) (hr0 := rl _ _ rfl (by decide)) ..).symm ?_
      have jb' := jb j'
      rcases brk (L := L) 41 R' (by omega) (by decide) with ⟨q6, h11, b6, R11, X11⟩ | ⟨q6, b6⟩
      · rw [if_pos q6]
        have b6' : mx_C mm_X4_bracket [.ref 18, .int 41] h' = _ := b6
        rw [b6']
        have a6 := adv_O q6
        refine Eq.subst (motive := fun X => RdO c len N s lets L h n ts _ X) (e_X4_readNumbered_160 (v2 := some (1000 + w)) (s0 := iI 1) (hr0 := rP _ _ _) ..).symm ?_
        rw [if_neg (show ¬ iI 1 = 0 by decide)]
        have O := X4_readParts_c I hL wl e2 e1 ⟨a3.1, a3.2.1⟩ e4 e5 (fun z => absurd e3 z) e6 hl R11 (Pre_mv P (by omega)) (by omega)
        have O' := RdO_t (Nat.le_refl _) (Nat.le_refl _) (RdX_t (Nat.le_refl _) (Nat.le_refl _) X' X11) (Nat.le_refl _) (fun _ _ => rfl) O
        have pass : ∀ (v : Int32) (h'' : mx_H), mx_D (rk, mm_X4_readNumbered, 172, [.ref 18, .int (iI ((L : Int))), mx_rf (some (1000 + w)), .int (iI (jU c len (j + 1 + 2))), .int (iI (q))], [.int v]) h'' = some (some (.int v), h'') := by
          intro v h''
          rw [e_X4_readNumbered_172, e_X4_readNumbered_176]
        cases r : rdApp c len (rdT c len s f lets) k (jU c len (j + 1 + 2)) q (j' + 1) n ts with
        | inl e =>
          rw [r] at O'
          obtain ⟨hz, z1, z2⟩ := O'
          have z1' : mx_C mm_X4_readParts [.ref 18, mx_rf (some (1000 + w)), .int (iI (jU c len (j + 1 + 2))), .int (iI (q)), .int (iI ((L : Int)))] h11 = _ := z1
          rw [z1']
          exact ⟨hz, pass _ _, z2⟩
        | inr x =>
          obtain ⟨x1, x2, x3, x4⟩ := x
          rw [r] at O'
          obtain ⟨hz, z1, z2⟩ := O'
          have z1' : mx_C mm_X4_readParts [.ref 18, mx_rf (some (1000 + w)), .int (iI (jU c len (j + 1 + 2))), .int (iI (q)), .int (iI ((L : Int)))] h11 = _ := z1
          rw [z1']
          exact ⟨hz, pass _ _, z2⟩
      · rw [if_neg q6]
        have b6' : mx_C mm_X4_bracket [.ref 18, .int 41] h' = _ := b6
        rw [b6']
        refine RdO_f ?_ (by omega) R' (Nat.le_refl _) (fun _ _ => rfl) X'
        refine Eq.trans (e_X4_readNumbered_160 (v2 := some (1000 + w)) (s0 := iI 0) (hr0 := rP _ _ _) ..) ?_
        rw [if_pos (show iI 0 = 0 from rfl), e_X4_readNumbered_176]
        rfl
    simp only [Nat.add_assoc, Nat.reduceAdd] at a1 a2 a3 j1 j2 j3 j4 hj R4 m0
    by_cases q4 : w = 37
    · rw [if_pos (c := (mx_rf (some (1000 + w)) : Value) = .ref 1037) (by rw [q4]; rfl), if_pos (show some w = some 37 by rw [q4]), X8_numberAt_c R4.2.1 R4.1 (by omega)]
      refine Eq.subst (motive := fun X => RdO c len N s lets L h n ts _ X) (e_X4_readNumbered_121 (v2 := some (1000 + w)) (s0 := iI (jU c len (j + 1 + 3))) ..).symm ?_
      have f135 : mx_D (rk, mm_X4_readNumbered, 135, [.ref 18, .int (iI ((L : Int))), mx_rf (some (1000 + w)), .int (iI (jU c len (j + 1 + 2))), .int (iI (jU c len (j + 1 + 3)))], []) h4 = some (some (.int (iI (-1))), (mx_u h4.1 18 4 (iI ((j + 1 + 3 : Nat) : Int)), h4.2.1, h4.2.2)) := by
        rw [e_X4_readNumbered_135 (hr0 := rl _ _ rfl (by decide)), R4.2.2.2.2.1, X4_noTermAt_c]
        exact e_X4_readNumbered_143 ..
      by_cases q5 : jU c len (j + 1 + 3) = -1
      · rw [if_pos (Or.inl q5), if_pos (show iI (jU c len (j + 1 + 3)) = -1 by rw [q5]; rfl)]
        exact RdO_f f135 (by omega) R4 (Nat.le_refl _) (fun _ _ => rfl) X4
      have a5 := jU_l q5
      rw [if_neg (jU_ne q5)]
      by_cases q6 : jU c len (j + 1 + 2) < jU c len (j + 1 + 3)
      · rw [if_pos (Or.inr q6), if_neg (by rw [ii_le (by simp only [Nat.add_assoc, Nat.reduceAdd] at *; omega)]; omega)]
        exact RdO_f f135 (by omega) R4 (Nat.le_refl _) (fun _ _ => rfl) X4
      rw [if_neg (fun z => z.elim q5 q6), if_pos (c := iI (jU c len (j + 1 + 3)) ≤ iI (jU c len (j + 1 + 2))) (by rw [ii_le (by simp only [Nat.add_assoc, Nat.reduceAdd] at *; omega)]; omega), R4.2.2.2.2.1, ii_s1]
      have R5 := RdC_3 (j + 4 + 1) R4
      have X5 : RdX L lets.length h (mx_u h4.1 18 3 (iI ((j + 4 + 1 : Nat) : Int)), h4.2.1, h4.2.2) := RdX_t (Nat.le_refl _) (Nat.le_refl _) X4 RdX_3
      generalize (mx_u h4.1 18 3 (iI ((j + 4 + 1 : Nat) : Int)), h4.2.1, h4.2.2) = h5 at R5 X5
      have j5 := jb (j + 5)
      simp only [Nat.add_assoc, Nat.reduceAdd] at a5 q6
      have := tail 30 (jU c len (j + 1 + 3)) (j + 5) h5 (by omega) (by decide) (by decide) (by simp only [Nat.add_assoc, Nat.reduceAdd]; omega) (fun _ => by simp only [Nat.add_assoc, Nat.reduceAdd]; omega) (fun z => absurd rfl z) R5 X5 (by omega) (by omega)
      exact this
    · rw [if_neg (c := (mx_rf (some (1000 + w)) : Value) = .ref 1037) (fun z => q4 (by injection z with z; exact Nat.add_left_cancel (show 1000 + w = 1000 + 37 from z))), if_neg (show ¬ some w = some 37 from fun z => q4 (by injection z))]
      have := tail (if some w = some 38 then 31 else 32) 0 (j + 4) h4 (by
        by_cases z : w = 38
        · rw [if_pos (by rw [z])]; omega
        · rw [if_neg (fun y => z (by injection y))]; omega) (by split <;> decide) (by split <;> decide) (by decide) (by split <;> (intro z; exact absurd z (by decide))) (fun _ => rfl) R4 X4 (by omega) (by omega)
      exact this
theorem X4_readTerm_c : ∀ (f L : Nat), L + f = 9 → f ≤ 8 → ScB s → IHT c len N s A L f := by
  intro f
  induction f with
  | zero =>
    intro L hL _ B lets j n ts h R P hj hl
    obtain rfl : L = 9 := by omega
    have rl : ∀ (m : mx_M) (as : List Value), m.2.1 = false → m.1 < 5 → mx_rank m as < 7 := fun m as => rk_l (by omega)
    have len1 := P.2.2.2
    have jb := jB_le (c := c) (len := len) j
    rw [c_X4_readTerm, rk_T (by omega), e_X4_readTerm_0 (hr0 := rl _ _ rfl (by decide)) (hr1 := rl _ _ rfl (by decide)), if_neg (by decide), R.2.2.2.2.1, X4_noTermAt_c]
    exact RdO_f (e_X4_readTerm_14 ..) (by omega) R (Nat.le_refl _) (fun _ _ => rfl) RdX_r
  | succ f ih =>
    intro L hL hf B lets j n ts h R P hj hl
    have I := ih (L + 1) (by omega) (by omega) B
    obtain ⟨rk, hrk⟩ : ∃ rk, rk = 7 + 3 * (9 - L) := ⟨_, rfl⟩
    have rl : ∀ (m : mx_M) (as : List Value), m.2.1 = false → m.1 < 5 → mx_rank m as < rk := fun m as => rk_l (by omega)
    have rP : ∀ (v : Value) (a b : Int32), mx_rank mm_X4_readParts [.ref 18, v, .int a, .int b, .int (iI ((L : Int)))] < rk := fun v a b => by rw [rk_P (by omega)]; omega
    have rL : mx_rank mm_X4_readLet [.ref 18, .int (iI ((L : Int)))] < rk := by rw [rk_L (by omega)]; omega
    have rN : mx_rank mm_X4_readNumbered [.ref 18, .int (iI ((L : Int)))] < rk := by rw [rk_N (by omega)]; omega
    have len1 := P.2.2.2
    have jb := fun j => jB_le (c := c) (len := len) j
    have j0 := jb j
    have pass : ∀ (m : Nat) (r : Rd) (X : Option mx_O) (g : Option mx_O → Option mx_O), (∀ v h'', X = some (some (.int v), h'') → g X = X) → RdO c len N s lets L h n ts r X → RdO c len N s lets L h n ts r (g X) := by
      intro m r X g hg O
      cases r with
      | inl e =>
        obtain ⟨hz, z1, z2⟩ := O
        rw [hg _ _ z1]
        exact ⟨hz, z1, z2⟩
      | inr x =>
        obtain ⟨x1, x2, x3, x4⟩ := x
        obtain ⟨hz, z1, z2⟩ := O
        rw [hg _ _ z1]
        exact ⟨hz, z1, z2⟩
    have e8 : iI (L : Int) ≤ 8 := (ii_le (b := 8) (by omega)).mpr (by omega)
    rw [c_X4_readTerm, rk_T (by omega), ← hrk, e_X4_readTerm_0 (hr0 := rl _ _ rfl (by decide)) (hr1 := rl _ _ rfl (by decide)), if_pos e8, R.2.2.2.2.1]
    have b0 : mx_C mm_X8_isBracket [.ref 1, .int (iI (j : Int)), .int 40] h = some (some (.int (bI (jO c len j 40))), h) := X8_isBracket_c R.2.1 R.1 (by omega) (ch := 40) (by decide)
    rw [b0]
    refine Eq.subst (motive := fun X => RdO c len N s lets L h n ts _ X) (e_X4_readTerm_28 (s0 := bI (jO c len j 40)) (hr0 := rl _ _ rfl (by decide)) (hr1 := rl _ _ rfl (by decide)) ..).symm ?_
    unfold rdT
    by_cases q1 : jO c len j 40 = true
    rotate_left
    · have q1' : jO c len j 40 = false := by simpa using q1
      rw [if_pos q1, q1', if_pos (show bI false = 0 from rfl)]
      refine pass 0 _ _ (fun X => X.bind (fun o => mx_D (rk, mm_X4_readTerm, 35, [.ref 18, .int (iI ((L : Int))), mx_junk], o.1.toList ++ []) o.2)) ?_ (X4_readAtom_c B R P (by omega) (by omega))
      intro v h'' e
      rw [e]
      exact e_X4_readTerm_35 ..
    rw [if_neg (fun z => z q1), q1, if_neg (show ¬ bI true = 0 by decide), mu_s, R.2.2.2.2.1, ii_s1]
    have a1 := adv_O q1
    have R1 := RdC_3 (j + 1) R
    have X1 : RdX L lets.length h (mx_u h.1 18 3 (iI ((j + 1 : Nat) : Int)), h.2.1, h.2.2) := RdX_3
    have P1 : Pre c len s A lets (j + 1) n ts := Pre_mv P (by omega)
    generalize (mx_u h.1 18 3 (iI ((j + 1 : Nat) : Int)), h.2.1, h.2.2) = h1 at R1 X1
    have j1 := jb (j + 1)
    have b1 : mx_C mm_X8_isBracket [.ref 1, .int (iI ((j + 1 : Nat) : Int)), .int 40] h1 = some (some (.int (bI (jO c len (j + 1) 40))), h1) := X8_isBracket_c R1.2.1 R1.1 (by omega) (ch := 40) (by decide)
    rw [b1]
    refine Eq.subst (motive := fun X => RdO c len N s lets L h n ts _ X) (e_X4_readTerm_59 (s0 := bI (jO c len (j + 1) 40)) (hr0 := rl _ _ rfl (by decide)) (hr1 := rN) ..).symm ?_
    by_cases q2 : jO c len (j + 1) 40 = true
    · have a2 := adv_O q2
      rw [if_pos q2, q2, if_neg (show ¬ bI true = 0 by decide)]
      refine pass 0 _ _ (fun X => X.bind (fun o => mx_D (rk, mm_X4_readTerm, 67, [.ref 18, .int (iI ((L : Int))), mx_junk], o.1.toList ++ []) o.2)) ?_ (RdO_t (Nat.le_refl _) (Nat.le_refl _) X1 (Nat.le_refl _) (fun _ _ => rfl) (X4_readNumbered_c I (by omega) hl R1 P1 (by omega)))
      intro v h'' e
      rw [e]
      exact e_X4_readTerm_67 ..
    have q2' : jO c len (j + 1) 40 = false := by simpa using q2
    rw [if_neg q2, q2', if_pos (show bI false = 0 from rfl), R1.2.2.2.2.1, X8_wordAt_c R1.2.1 (by omega)]
    have f111 : ∀ v2 : Option Nat, mx_D (rk, mm_X4_readTerm, 111, [.ref 18, .int (iI ((L : Int))), mx_rf v2], []) h1 = some (some (.int (iI (-1))), (mx_u h1.1 18 4 (iI ((j + 1 : Nat) : Int)), h1.2.1, h1.2.2)) := by
      intro v2
      rw [e_X4_readTerm_111 (hr0 := rl _ _ rfl (by decide)), R1.2.2.2.2.1, X4_noTermAt_c]
      exact e_X4_readTerm_119 ..
    cases w2 : jW c len (j + 1) with
    | none =>
      have : wdx c (tB c len (j + 1)) (tE c len (tB c len (j + 1))) = none := w2
      rw [this]
      refine RdO_f ?_ (by omega) R1 (Nat.le_refl _) (fun _ _ => rfl) X1
      exact (e_X4_readTerm_79n rk (iI (L : Int)) h1).trans (f111 none)
    | some w =>
      have wl := jW_lt w2
      have a2 := adv_W1 w2
      have hh : 1000 ≤ 1000 + w ∧ 1000 + w < 1042 := by omega
      have : wdx c (tB c len (j + 1)) (tE c len (tB c len (j + 1))) = some w := w2
      rw [this]
      dsimp only
      refine Eq.subst (motive := fun X => RdO c len N s lets L h n ts _ X) (e_X4_readTerm_79 (s0 := 1000 + w) (hw_s0 := hh) (hr0 := rl _ _ rfl (by decide)) (hr1 := rL) ..).symm ?_
      by_cases q3 : w = 10
      · rw [if_pos q3, if_pos (c := (.ref (1000 + w) : Value) = .ref 1010) (by rw [q3])]
        refine pass 0 _ _ (fun X => X.bind (fun o => mx_D (rk, mm_X4_readTerm, 92, [.ref 18, .int (iI ((L : Int))), .ref (1000 + w)], o.1.toList ++ []) o.2)) ?_ (RdO_t (Nat.le_refl _) (Nat.le_refl _) X1 (Nat.le_refl _) (fun _ _ => rfl) (X4_readLet_c I (by omega) hl R1 P1 (by omega)))
        intro v h'' e
        rw [e]
        exact e_X4_readTerm_92 (v2 := some (1000 + w)) ..
      rw [if_neg q3, if_neg (c := (.ref (1000 + w) : Value) = .ref 1010) (fun z => q3 (by injection z with z; exact Nat.add_left_cancel (show 1000 + w = 1000 + 10 from z))), if_neg (c := (.ref (1000 + w) : Value) = .null) (fun z => by cases z)]
      by_cases q4 : w ≤ 10
      · rw [if_neg (by omega), wsh_0 q4, if_pos (show iI 0 = 0 from rfl)]
        exact RdO_f (f111 (some (1000 + w))) (by omega) R1 (Nat.le_refl _) (fun _ _ => rfl) X1
      have nb := np_b (k := (w : Int) - 7) (by omega)
      rw [wsh_p wl (by omega), if_neg (show ¬ iI (np ((w : Int) - 7)) = 0 from fun z => (by have := (ii_eq (by omega) (by omega)).mp (z.trans (show (0 : Int32) = iI 0 from rfl)); omega)), X9_takesNumbers_c h1 wl]
      refine Eq.subst (motive := fun X => RdO c len N s lets L h n ts _ X) (e_X4_readTerm_108 (v2 := some (1000 + w)) (s0 := bI (decide (37 ≤ w ∧ w ≤ 39))) (hr0 := rP _ _ _) ..).symm ?_
      by_cases q5 : 37 ≤ w ∧ w ≤ 39
      · rw [if_neg (by omega), decide_eq_true q5, if_neg (show ¬ bI true = 0 by decide)]
        exact RdO_f (f111 (some (1000 + w))) (by omega) R1 (Nat.le_refl _) (fun _ _ => rfl) X1
      rw [if_pos (by omega), decide_eq_false q5, if_pos (show bI false = 0 from rfl), R1.2.2.2.2.1, ii_s1]
      have R2 := RdC_3 (j + 1 + 1) R1
      have X2 : RdX L lets.length h (mx_u h1.1 18 3 (iI ((j + 1 + 1 : Nat) : Int)), h1.2.1, h1.2.2) := RdX_t (Nat.le_refl _) (Nat.le_refl _) X1 RdX_3
      generalize (mx_u h1.1 18 3 (iI ((j + 1 + 1 : Nat) : Int)), h1.2.1, h1.2.2) = h2 at R2 X2
      have O := X4_readParts_c I (by omega) wl (k := (w : Int) - 7) (by omega) (by omega) (p := 0) (q := 0) (by decide) (by decide) (fun _ => Int.le_refl 0) (fun _ => rfl) (fun _ => rfl) hl R2 (Pre_mv P1 (by omega)) (by omega)
      refine pass 0 _ _ (fun X => X.bind (fun o => mx_D (rk, mm_X4_readTerm, 138, [.ref 18, .int (iI ((L : Int))), mx_rf (some (1000 + w))], o.1.toList ++ []) o.2)) ?_ (RdO_t (Nat.le_refl _) (Nat.le_refl _) X2 (Nat.le_refl _) (fun _ _ => rfl) O)
      intro v h'' e
      rw [e]
      exact e_X4_readTerm_138 (v2 := some (1000 + w)) ..
end RC
