/-! the class's readParts -/
theorem rk_T {L : Nat} (h : L < 2000) : mx_rank mm_X4_readTerm [.ref 18, .int (iI ((L : Int)))] = 7 + 3 * (9 - L) := by
  have e : (iI (L : Int)).toNatClampNeg = L := by rw [ii_cl (by omega)]; exact Int.toNat_natCast L
  show 7 + 3 * (9 - (iI (L : Int)).toNatClampNeg) = _
  rw [e]
theorem rk_P {L : Nat} {v : Value} {a b : Int32} (h : L < 2000) : mx_rank mm_X4_readParts [.ref 18, v, .int a, .int b, .int (iI ((L : Int)))] = 5 + 3 * (9 - L) := by
  have e : (iI (L : Int)).toNatClampNeg = L := by rw [ii_cl (by omega)]; exact Int.toNat_natCast L
  show 5 + 3 * (9 - (iI (L : Int)).toNatClampNeg) = _
  rw [e]
def IHT (c : Nat → Int) (len N : Nat) (s : Sc) (A : Nat → Prop) (L f : Nat) : Prop := ∀ lets j n ts h, RdC c len N s lets j n ts h → Pre c len s A lets j n ts → j ≤ 5 + jB c len j → lets.length + 1 ≤ L → RdO c len N s lets L h n ts (rdT c len s f lets j n ts) (mx_C mm_X4_readTerm [.ref 18, .int (iI ((L : Int)))] h)
def RdPO (c : Nat → Int) (len N : Nat) (s : Sc) (lets : List (List Nat × Nat)) (L : Nat) (h : mx_H) (n : Nat) (ts : Nat → Tm) (g : Value → mx_H → Option mx_O) (r : RdP) (X : Option mx_O) : Prop := match r with
  | .inr (ps', j', n', ts') => ∃ h' v, X = g v h' ∧ RdC c len N s lets j' n' ts' h' ∧ PrtC L ps' h'.1 ∧ RdX L lets.length h h'
  | .inl e => RdO c len N s lets L h n ts (.inl e) X
theorem RdO_t {c : Nat → Int} {len N : Nat} {s : Sc} {lets : List (List Nat × Nat)} {L L' d : Nat} {h h1 : mx_H} {n n1 : Nat} {ts ts1 : Nat → Tm} {r : Rd} {X : Option mx_O} (hL : L ≤ L') (hd : lets.length ≤ d) (Y : RdX L d h h1) (hn : n ≤ n1) (ho : ∀ i, i < n → ts1 i = ts i) (O : RdO c len N s lets L' h1 n1 ts1 r X) : RdO c len N s lets L h n ts r X := by
  have Y' : RdX L lets.length h h1 := by
    obtain ⟨a1, a2, a3, a4, a5, a6, a7⟩ := Y
    exact ⟨a1, a2, a3, a4, fun k z => a5 k (by omega), a6, a7⟩
  match r, O with
  | .inr (t, j', n', ts'), ⟨h', o1, o2, o3⟩ => exact ⟨h', o1, o2, RdX_t hL (Nat.le_refl _) Y' o3⟩
  | .inl e, ⟨h', o1, o2, o3, ⟨n', ts', o4, o5, o6⟩, o7⟩ => exact ⟨h', o1, o2, o3, ⟨n', ts', o4, by omega, fun i hi => by rw [o6 i (by omega), ho i hi]⟩, RdX_t hL (Nat.le_refl _) Y' o7⟩
theorem RdPO_t {c : Nat → Int} {len N : Nat} {s : Sc} {lets : List (List Nat × Nat)} {L : Nat} {h h1 : mx_H} {n n1 : Nat} {ts ts1 : Nat → Tm} {g : Value → mx_H → Option mx_O} {r : RdP} {X : Option mx_O} (Y : RdX L lets.length h h1) (hn : n ≤ n1) (ho : ∀ i, i < n → ts1 i = ts i) (O : RdPO c len N s lets L h1 n1 ts1 g r X) : RdPO c len N s lets L h n ts g r X := by
  match r, O with
  | .inr (t, j', n', ts'), ⟨h', v, o1, o2, o3, o4⟩ => exact ⟨h', v, o1, o2, o3, RdX_t (Nat.le_refl _) (Nat.le_refl _) Y o4⟩
  | .inl e, O =>
    have O' : RdO c len N s lets L h1 n1 ts1 (.inl e) X := O
    exact (show RdO c len N s lets L h n ts (.inl e) X from RdO_t (Nat.le_refl _) (Nat.le_refl _) Y hn ho O')
/-- the parts written into the new term -/
def ppF (f : Nat → Nat → Int32) (n : Nat) (ps : List Nat) : Nat → Nat → Nat → Int32
  | 0 => f
  | i + 1 => mx_u (ppF f n ps i) 8 (3 * n + i) (iI ((ps.getD i 0 : Nat) : Int))
theorem ppF_8 {f : Nat → Nat → Int32} {n : Nat} {ps : List Nat} : ∀ (i x : Nat), ppF f n ps i 8 (3 * n + x) = if x < i then iI ((ps.getD x 0 : Nat) : Int) else f 8 (3 * n + x) := by
  intro i
  induction i with
  | zero => intro x; rw [if_neg (by omega)]; rfl
  | succ i ih =>
    intro x
    unfold ppF
    by_cases e : x = i
    · rw [e, mu_s, if_pos (by omega)]
    · rw [mu_k _ _ (by omega), ih x]
      by_cases e2 : x < i
      · rw [if_pos e2, if_pos (by omega)]
      · rw [if_neg e2, if_neg (by omega)]
theorem ppF_o {f : Nat → Nat → Int32} {n : Nat} {ps : List Nat} {a k : Nat} (h : a ≠ 8 ∨ k < 3 * n) : ∀ (i : Nat), ppF f n ps i a k = f a k := by
  intro i
  induction i with
  | zero => rfl
  | succ i ih =>
    unfold ppF
    unfold mx_u
    rw [if_neg (by omega)]
    exact ih
section RC
variable {c : Nat → Int} {len N : Nat} {s : Sc} {A : Nat → Prop}
theorem X4_readParts_9 {lets : List (List Nat × Nat)} {L f w rk : Nat} {k p q : Int} (I : IHT c len N s A (L + 1) f) (hL : 1 ≤ L ∧ L ≤ 8) (hw : w < 42) (hk : 4 ≤ k ∧ k ≤ 34) (hwk : (w : Int) = k + 7) (hp : 0 ≤ p ∧ p ≤ 99) (hrk : rk = 5 + 3 * (9 - L)) (hl : lets.length + 1 ≤ L) : ∀ (d : Nat) (ps : List Nat) (j n : Nat) (ts : Nat → Tm) (h : mx_H) (v7 : Value), RdC c len N s lets j n ts h → Pre c len s A lets j n ts → j ≤ 5 + jB c len j → ps.length + d = (np k).toNat → PrtC L ps h.1 → (∀ t, t ∈ ps → al n ts A t) → RdPO c len N s lets L h n ts (fun v h' => mx_D (rk, mm_X4_readParts, 90, [.ref 18, .ref (1000 + w), .int (iI (p)), .int (iI (q)), .int (iI ((L : Int))), .int (iI (3 * (L : Int))), .int (iI (np k)), v], []) h') (rdP (rdT c len s f lets) k p d ps j n ts) (mx_D (rk, mm_X4_readParts, 9, [.ref 18, .ref (1000 + w), .int (iI (p)), .int (iI (q)), .int (iI ((L : Int))), .int (iI (3 * (L : Int))), .int (iI ((ps.length : Int))), v7], []) h) := by
  have hh : 1000 ≤ 1000 + w ∧ 1000 + w < 1042 := by omega
  have nb := np_b hk
  have rl : ∀ (m : mx_M) (as : List Value), m.2.1 = false → m.1 < 5 → mx_rank m as < rk := fun m as => rk_l (by omega)
  have rT : mx_rank mm_X4_readTerm [.ref 18, .int (iI (L : Int) + 1)] < rk := by rw [ii_s1, rk_T (by omega)]; omega
  have wp := wsh_p hw (by omega)
  rw [show ((w : Int) - 7) = k by omega] at wp
  intro d
  induction d with
  | zero =>
    intro ps j n ts h v7 R P hj hd hP hal
    unfold rdP
    refine ⟨h, v7, ?_, R, hP, RdX_r⟩
    rw [e_X4_readParts_9 (hw_v1 := hh) (hr0 := rT), wp]
    have e : (ps.length : Int) = np k := by omega
    rw [e]
    simp (disch := omega) only [↓reduceIte, ii_lit, ii_add, ii_sub, ii_mul, ii_neg, ii_lt_t, ii_lt_f, ii_le_t, ii_le_f, ii_eq_t, ii_eq_f, ii_in, ii_cl, ii_shr, ii_shl, ii_and1, ii_and255, Option.bind_some, Option.toList, List.cons_append, List.nil_append, Int.toNat_natCast, mu_s, mu_c, mu_k, bI_i0, bI_i1, bI_n, nb_0, nb_1, bI_ft, bI_ff, Bool.false_eq_true, reduceCtorEq, Bool.true_eq_false, decide_true, decide_false, eq_self, Int.reduceAdd, Int.reduceSub, Int.reduceMul, Int.reduceNeg, Int.reduceToNat, tn30, tn31, tn32, tn20, tn21]
  | succ d ih =>
    intro ps j n ts h v7 R P hj hd hP hal
    rw [e_X4_readParts_9 (hw_v1 := hh) (hr0 := rT), wp, if_neg (by rw [ii_le (by omega)]; omega), if_neg (by show ¬ iI 3 ≤ _; rw [ii_le (by omega)]; omega), ii_s1, R.2.2.2.2.1]
    have O := I lets j n ts h R P hj (by omega)
    have K := rdT_k f lets j n ts P
    unfold rdP
    cases r : rdT c len s f lets j n ts with
    | inl e =>
      rw [r] at O
      obtain ⟨h', o1, o2, o3, ⟨n', ts', o4, o5, o6⟩, o7⟩ := O
      rw [o1]
      dsimp only
      have e1 : (3 * (L : Int) + (ps.length : Int)).toNat = 3 * L + ps.length := by omega
      refine ⟨(mx_u h'.1 19 (3 * L + ps.length) (iI (-1)), h'.2.1, h'.2.2), ?_, ?_, o3, ⟨n', ts', TermC_18 (by decide) o4, o5, o6⟩, ?_⟩
      · refine Eq.trans (e_X4_readParts_47 (v1 := some (1000 + w)) (hr0 := rl _ _ rfl (by decide)) ..) ?_
        simp (disch := omega) only [↓reduceIte, ii_lit, ii_add, ii_sub, ii_mul, ii_neg, ii_lt_t, ii_lt_f, ii_le_t, ii_le_f, ii_eq_t, ii_eq_f, ii_in, ii_cl, ii_shr, ii_shl, ii_and1, ii_and255, Option.bind_some, Option.toList, List.cons_append, List.nil_append, Int.toNat_natCast, mu_s, mu_c, mu_k, bI_i0, bI_i1, bI_n, nb_0, nb_1, bI_ft, bI_ff, Bool.false_eq_true, reduceCtorEq, Bool.true_eq_false, decide_true, decide_false, eq_self, Int.reduceAdd, Int.reduceSub, Int.reduceMul, Int.reduceNeg, Int.reduceToNat, tn30, tn31, tn32, tn20, tn21, e1]
      · dsimp only; rw [mu_c _ _ _ _ (by decide)]; exact o2
      · exact RdX_t (Nat.le_refl _) (Nat.le_refl _) (RdX_t (L := L) (L' := L + 1) (by omega) (Nat.le_refl _) RdX_r o7) (RdX_19 (by omega))
    | inr x =>
      obtain ⟨t, j1, n1, ts1⟩ := x
      rw [r] at O
      obtain ⟨h', o1, o2, o3⟩ := O
      obtain ⟨a1, a2, a3, a4, a5, a6, a7⟩ := K t j1 n1 ts1 r
      rw [o1]
      dsimp only
      have tl := al_lt a2
      have p2 := P.2.1
      have P1 : Pre c len s A lets j1 n1 ts1 := ⟨a1, by omega, AL_ext P.2.2.1 a3 a4, P.2.2.2⟩
      have nn := Pre_n P1
      have e1 : (3 * (L : Int) + (ps.length : Int)).toNat = 3 * L + ps.length := by omega
      have X1 : RdX L lets.length h h' := RdX_t (L := L) (L' := L + 1) (by omega) (Nat.le_refl _) RdX_r o3
      have X2 : RdX L lets.length h (mx_u h'.1 19 (3 * L + ps.length) (iI (t : Int)), h'.2.1, h'.2.2) := RdX_t (Nat.le_refl _) (Nat.le_refl _) X1 (RdX_19 (by omega))
      have R2 : RdC c len N s lets j1 n1 ts1 (mx_u h'.1 19 (3 * L + ps.length) (iI (t : Int)), h'.2.1, h'.2.2) := RdC_x (L := L) o2 (RdX_19 (by omega)) (Nat.le_refl _) (TermC_18 (by decide) o2.2.2.2.1) (by dsimp only; rw [mu_c _ _ _ _ (by decide)]; exact o2.2.2.2.2.1)
      have hP2 : PrtC L (ps ++ [t]) (mx_u h'.1 19 (3 * L + ps.length) (iI (t : Int))) := by
        intro i hi
        rw [List.length_append, List.length_singleton] at hi
        by_cases e : i = ps.length
        · rw [e, mu_s, gd_new]
        · rw [mu_k _ _ (by omega), gd_app (by omega), o3.2.2.2.1 _ (by omega)]
          exact hP i (by omega)
      have al2 : ∀ t', t' ∈ ps ++ [t] → al n1 ts1 A t' := by
        intro t' ht
        rcases List.mem_append.mp ht with z | z
        · exact al_ext a3 a4 (hal t' z)
        · rw [List.mem_singleton.mp z]; exact a2
      have F := X4_fits_c (h := (mx_u h'.1 19 (3 * L + ps.length) (iI (t : Int)), h'.2.1, h'.2.2)) (i := ps.length) R2.2.2.2.1 hw hk hwk hp hL.2 hP2 (fun t' ht => al_lt (al2 t' ht)) (by rw [List.length_append]; rfl) (by omega)
      rw [gd_new] at F
      have st : mx_D (rk, mm_X4_readParts, 47, [.ref 18, .ref (1000 + w), .int (iI (p)), .int (iI (q)), .int (iI ((L : Int))), .int (iI (3 * (L : Int))), .int (iI ((ps.length : Int))), .int (iI ((j : Int)))], [.int (iI ((t : Int))), .int (iI (3 * (L : Int)) + iI (ps.length : Int)), .ref 19]) h' = mx_D (rk, mm_X4_readParts, 74, [.ref 18, .ref (1000 + w), .int (iI (p)), .int (iI (q)), .int (iI ((L : Int))), .int (iI (3 * (L : Int))), .int (iI ((ps.length : Int))), .int (iI ((j : Int)))], [.int (bI (fitB k ps.length (tS (ts1 t)) (tS (ts1 ((ps ++ [t]).getD 0 0))) (tS (ts1 ((ps ++ [t]).getD 1 0))) p))]) (mx_u h'.1 19 (3 * L + ps.length) (iI (t : Int)), h'.2.1, h'.2.2) := by
        refine Eq.trans (e_X4_readParts_47 (v1 := some (1000 + w)) (hr0 := rl _ _ rfl (by decide)) ..) ?_
        have F' : mx_C mm_X4_fits [.ref 18, mx_rf (some (1000 + w)), .int (iI ((ps.length : Int))), .int (iI (3 * (L : Int))), .int (iI (p))] (mx_u h'.1 19 (3 * L + ps.length) (iI (t : Int)), h'.2.1, h'.2.2) = _ := F
        simp (disch := omega) only [↓reduceIte, ii_lit, ii_add, ii_sub, ii_mul, ii_neg, ii_lt_t, ii_lt_f, ii_le_t, ii_le_f, ii_eq_t, ii_eq_f, ii_in, ii_cl, ii_shr, ii_shl, ii_and1, ii_and255, Option.bind_some, Option.toList, List.cons_append, List.nil_append, Int.toNat_natCast, mu_s, mu_c, mu_k, bI_i0, bI_i1, bI_n, nb_0, nb_1, bI_ft, bI_ff, Bool.false_eq_true, reduceCtorEq, Bool.true_eq_false, decide_true, decide_false, eq_self, Int.reduceAdd, Int.reduceSub, Int.reduceMul, Int.reduceNeg, Int.reduceToNat, tn30, tn31, tn32, tn20, tn21, e1, F']
        rfl
      refine Eq.subst (motive := fun X => RdPO c len N s lets L h n ts _ _ X) st.symm ?_
      refine Eq.subst (motive := fun X => RdPO c len N s lets L h n ts _ _ X) (e_X4_readParts_74 (v1 := some (1000 + w)) (hr0 := rl _ _ rfl (by decide)) ..).symm ?_
      by_cases fq : fitB k ps.length (tS (ts1 t)) (tS (ts1 ((ps ++ [t]).getD 0 0))) (tS (ts1 ((ps ++ [t]).getD 1 0))) p = true
      · rw [if_pos fq, fq, if_neg (show ¬ bI true = 0 by decide), ii_s1]
        have e2 : ps.length + 1 = (ps ++ [t]).length := by rw [List.length_append]; rfl
        rw [e2]
        exact RdPO_t X2 a3 a4 (ih (ps ++ [t]) j1 n1 ts1 _ _ R2 P1 (by omega) (by rw [← e2]; omega) hP2 al2)
      · have fq' : fitB k ps.length (tS (ts1 t)) (tS (ts1 ((ps ++ [t]).getD 0 0))) (tS (ts1 ((ps ++ [t]).getD 1 0))) p = false := by
          cases z : fitB k ps.length (tS (ts1 t)) (tS (ts1 ((ps ++ [t]).getD 0 0))) (tS (ts1 ((ps ++ [t]).getD 1 0))) p with
          | false => rfl
          | true => exact absurd z fq
        rw [if_neg fq, fq', if_pos (show bI false = 0 from rfl), X4_noTermAt_c]
        have := jB_le (c := c) (len := len) j
        have := P.2.2.2
        exact RdO_f (e_X4_readParts_83 (v1 := some (1000 + w)) ..) (by omega) R2 a3 a4 X2
theorem X4_readParts_123 {n L w rk : Nat} {k p q : Int} {ps : List Nat} {f : Nat → Nat → Int32} {g : (Nat → Nat → Int64) × (Nat → Nat → Option Nat)} (hn : f 6 4 = iI (n : Int)) (hn8 : n < 180) (hL : 1 ≤ L ∧ L ≤ 8) (hw : w < 42) (hk : 4 ≤ k ∧ k ≤ 34) (hwk : (w : Int) = k + 7) (hrk : 5 ≤ rk) (hP : PrtC L ps f) (hl : ps.length = (np k).toNat) (v7 : Value) : ∀ (d i : Nat), i + d = (np k).toNat → mx_D (rk, mm_X4_readParts, 123, [.ref 18, .ref (1000 + w), .int (iI (p)), .int (iI (q)), .int (iI ((L : Int))), .int (iI (3 * (L : Int))), .int (iI ((i : Int))), v7], []) (ppF f n ps i, g.1, g.2) = mx_D (rk, mm_X4_readParts, 163, [.ref 18, .ref (1000 + w), .int (iI (p)), .int (iI (q)), .int (iI ((L : Int))), .int (iI (3 * (L : Int))), .int (iI (np k)), v7], []) (ppF f n ps (np k).toNat, g.1, g.2) := by
  have hh : 1000 ≤ 1000 + w ∧ 1000 + w < 1042 := by omega
  have nb := np_b hk
  have rl : ∀ (m : mx_M) (as : List Value), m.2.1 = false → m.1 < 5 → mx_rank m as < rk := fun m as => rk_l (by omega)
  have wp := wsh_p hw (by omega)
  rw [show ((w : Int) - 7) = k by omega] at wp
  intro d
  induction d with
  | zero =>
    intro i hi
    rw [e_X4_readParts_123 (hw_v1 := hh) (hr0 := rl _ _ rfl (by decide)), wp]
    rw [show i = (np k).toNat by omega, show (((np k).toNat : Nat) : Int) = np k by omega]
    simp (disch := omega) only [↓reduceIte, ii_lit, ii_add, ii_sub, ii_mul, ii_neg, ii_lt_t, ii_lt_f, ii_le_t, ii_le_f, ii_eq_t, ii_eq_f, ii_in, ii_cl, ii_shr, ii_shl, ii_and1, ii_and255, Option.bind_some, Option.toList, List.cons_append, List.nil_append, Int.toNat_natCast, mu_s, mu_c, mu_k, bI_i0, bI_i1, bI_n, nb_0, nb_1, bI_ft, bI_ff, Bool.false_eq_true, reduceCtorEq, Bool.true_eq_false, decide_true, decide_false, eq_self, Int.reduceAdd, Int.reduceSub, Int.reduceMul, Int.reduceNeg, Int.reduceToNat, tn30, tn31, tn32, tn20, tn21]
  | succ d ih =>
    intro i hi
    have e1 : (3 * (L : Int) + (i : Int)).toNat = 3 * L + i := by omega
    have e2 : ppF f n ps i 19 (3 * L + i) = iI ((ps.getD i 0 : Nat) : Int) := by rw [ppF_o (by omega)]; exact hP i (by omega)
    have e3 := X7_preparePart_c (h := (ppF f n ps i, g.1, g.2)) (k := i) (x := iI ((ps.getD i 0 : Nat) : Int)) (by dsimp only; rw [ppF_o (by omega)]; exact hn) hn8 (by omega)
    rw [e_X4_readParts_123 (hw_v1 := hh) (hr0 := rl _ _ rfl (by decide)), wp]
    simp (disch := omega) only [↓reduceIte, ii_lit, ii_add, ii_sub, ii_mul, ii_neg, ii_lt_t, ii_lt_f, ii_le_t, ii_le_f, ii_eq_t, ii_eq_f, ii_in, ii_cl, ii_shr, ii_shl, ii_and1, ii_and255, Option.bind_some, Option.toList, List.cons_append, List.nil_append, Int.toNat_natCast, mu_s, mu_c, mu_k, bI_i0, bI_i1, bI_n, nb_0, nb_1, bI_ft, bI_ff, Bool.false_eq_true, reduceCtorEq, Bool.true_eq_false, decide_true, decide_false, eq_self, Int.reduceAdd, Int.reduceSub, Int.reduceMul, Int.reduceNeg, Int.reduceToNat, tn30, tn31, tn32, tn20, tn21, e1, e2, e3]
    refine Eq.trans (e_X4_readParts_157 (v1 := some (1000 + w)) ..) ?_
    rw [ii_s1]
    exact ih (i + 1) (by omega)
theorem X4_readParts_c {lets : List (List Nat × Nat)} {L f w : Nat} {k p q : Int} (I : IHT c len N s A (L + 1) f) (hL : 1 ≤ L ∧ L ≤ 8) (hw : w < 42) (hk : 4 ≤ k ∧ k ≤ 34) (hwk : (w : Int) = k + 7) (hp : 0 ≤ p ∧ p ≤ 99) (hq : 0 ≤ q ∧ q ≤ 99) (h30 : k = 30 → q ≤ p) (hp0 : ¬ (30 ≤ k ∧ k ≤ 32) → p = 0) (hq0 : k ≠ 30 → q = 0) (hl : lets.length + 1 ≤ L) {j n : Nat} {ts : Nat → Tm} {h : mx_H} (R : RdC c len N s lets j n ts h) (P : Pre c len s A lets j n ts) (hj : j ≤ 5 + jB c len j) : RdO c len N s lets L h n ts (rdApp c len (rdT c len s f lets) k p q j n ts) (mx_C mm_X4_readParts [.ref 18, .ref (1000 + w), .int (iI (p)), .int (iI (q)), .int (iI ((L : Int)))] h) := by
  have hh : 1000 ≤ 1000 + w ∧ 1000 + w < 1042 := by omega
  have nb := np_b hk
  obtain ⟨rk, hrk⟩ : ∃ rk, rk = 5 + 3 * (9 - L) := ⟨_, rfl⟩
  have rl : ∀ (m : mx_M) (as : List Value), m.2.1 = false → m.1 < 5 → mx_rank m as < rk := fun m as => rk_l (by omega)
  have st : mx_C mm_X4_readParts [.ref 18, .ref (1000 + w), .int (iI (p)), .int (iI (q)), .int (iI ((L : Int)))] h = mx_D (rk, mm_X4_readParts, 9, [.ref 18, .ref (1000 + w), .int (iI (p)), .int (iI (q)), .int (iI ((L : Int))), .int (iI (3 * (L : Int))), .int (iI ((([] : List Nat).length : Int))), mx_junk], []) h := by
    refine Eq.trans (c_X4_readParts (some (1000 + w)) _ _ _ h) ?_
    rw [rk_P (by omega), ← hrk]
    refine Eq.trans (e_X4_readParts_0 (v1 := some (1000 + w)) ..) ?_
    simp (disch := omega) only [↓reduceIte, ii_lit, ii_add, ii_sub, ii_mul, ii_neg, ii_lt_t, ii_lt_f, ii_le_t, ii_le_f, ii_eq_t, ii_eq_f, ii_in, ii_cl, ii_shr, ii_shl, ii_and1, ii_and255, Option.bind_some, Option.toList, List.cons_append, List.nil_append, Int.toNat_natCast, mu_s, mu_c, mu_k, bI_i0, bI_i1, bI_n, nb_0, nb_1, bI_ft, bI_ff, Bool.false_eq_true, reduceCtorEq, Bool.true_eq_false, decide_true, decide_false, eq_self, Int.reduceAdd, Int.reduceSub, Int.reduceMul, Int.reduceNeg, Int.reduceToNat, tn30, tn31, tn32, tn20, tn21]
    rfl
  rw [st]
  have O := X4_readParts_9 I hL hw hk hwk hp hrk hl (q := q) (np k).toNat [] j n ts h mx_junk R P hj (Nat.zero_add _) (fun i z => by cases z) (fun t z => by cases z)
  unfold rdApp
  have K := rdP_k (rdT_k f lets) (k := k) (p := p) (np k).toNat [] j n ts P (fun t z => by cases z) (fun i z => by cases z)
  cases r : rdP (rdT c len s f lets) k p (np k).toNat [] j n ts with
  | inl e => rw [r] at O; exact O
  | inr x =>
    obtain ⟨ps, j1, n1, ts1⟩ := x
    rw [r] at O
    obtain ⟨b1, b2, b3, b4, b5, b6, b7, b8, b9⟩ := K ps j1 n1 ts1 r
    obtain ⟨h1, v, o1, o2, o3, o4⟩ := O
    rw [o1]
    rw [List.length_nil, Nat.zero_add] at b1
    have p2 := P.2.1
    have p3 := P.2.2.2
    have jb := jB_le (c := c) (len := len) j1
    have rw90 := e_X4_readParts_90 (rk := rk) (v1 := some (1000 + w)) (v2 := iI p) (v3 := iI q) (v4 := iI (L : Int)) (v5 := iI (3 * (L : Int))) (v6 := iI (np k)) (v7 := v) (h := h1) (hr0 := rl _ _ rfl (by decide))
    refine Eq.subst (motive := fun X => RdO c len N s lets L h n ts _ X) rw90.symm ?_
    unfold rdF
    dsimp only
    by_cases q1 : jO c len j1 41 = true
    · rw [if_pos q1]
      have B1 := X4_bracket_t o2 (by omega) (by decide) q1
      have B1' : mx_C mm_X4_bracket [.ref 18, .int 41] h1 = _ := B1
      rw [B1']
      have R2 := RdC_3 (j1 + 1) o2
      have X2 : RdX L lets.length h (mx_u h1.1 18 3 (iI ((j1 + 1 : Nat) : Int)), h1.2.1, h1.2.2) := RdX_t (Nat.le_refl _) (Nat.le_refl _) o4 RdX_3
      have P2 : PrtC L ps (mx_u h1.1 18 3 (iI ((j1 + 1 : Nat) : Int)), h1.2.1, h1.2.2).1 := fun i hi => by
        dsimp only
        rw [mu_c _ _ _ _ (by decide)]
        exact o3 i hi
      generalize (mx_u h1.1 18 3 (iI ((j1 + 1 : Nat) : Int)), h1.2.1, h1.2.2) = h2 at R2 X2 P2
      have T2 := R2.2.2.2.1
      obtain ⟨t1, t2, t3, t4, t5, t6, t7⟩ := tm_ok hk hp hq h30 hp0 hq0 b4 (by omega) b1 b2 b3
      have S1 := X4_resultSort_c (q := q) T2 hw hk hwk hp hL.2 P2 (fun t ht => al_lt (b2 t ht)) b1
      have ek : tk (tmOf k ts1 ps p q) = k := rfl
      have wkk : wk k = w := by unfold wk; rw [if_neg (by omega), if_neg (by omega), if_neg (by omega), if_neg (by omega)]; omega
      have c1 : cn1 (tmOf k ts1 ps p q) = p := by unfold cn1; rw [ek, if_neg (by omega), if_neg (by omega)]; rfl
      have c2 : cn2 (tmOf k ts1 ps p q) = q := by unfold cn2; rw [ek, if_neg (by omega)]; rfl
      have Pr := X7_prepare_c (i := iI p) (j := iI q) (s := iI (tS (tmOf k ts1 ps p q))) T2.1 (by omega) hw
      have L1 := X4_readParts_123 (rk := rk) (k := k) (p := p) (q := q) (w := w) (L := L) (n := n1) (ps := ps) (f := prF h2.1 n1 (iI p) (iI q) (iI (tS (tmOf k ts1 ps p q)))) (g := (h2.2.1, mx_u h2.2.2 7 n1 (some (1000 + w)))) (by rw [prF_o (by omega)]; exact T2.1) (by omega) hL hw hk hwk (by omega) (fun i hi => by rw [prF_o (by omega)]; exact P2 i hi) b1 v (np k).toNat 0 (Nat.zero_add _)
      have TP : TermC n1 ts1 (ppF (prF h2.1 n1 (iI p) (iI q) (iI (tS (tmOf k ts1 ps p q)))) n1 ps (np k).toNat) (mx_u h2.2.2 7 n1 (some (1000 + w))) := by
        have := TermC_pr (i := iI p) (j := iI q) (s := iI (tS (tmOf k ts1 ps p q))) (o := some (1000 + w)) T2
        obtain ⟨a1, a2, a3⟩ := this
        refine ⟨by rw [ppF_o (by omega)]; exact a1, a2, fun t ht => ?_⟩
        obtain ⟨⟨b1, b2, b3, b4, b5, b6, b7⟩, d⟩ := a3 t ht
        exact ⟨⟨b1, by rw [ppF_o (by omega)]; exact b2, by rw [ppF_o (by omega)]; exact b3, by rw [ppF_o (by omega)]; exact b4, by rw [ppF_o (by omega)]; exact b5, by rw [ppF_o (by omega)]; exact b6, by rw [ppF_o (by omega)]; exact b7⟩, d⟩
      have SL : SlotC (tmOf k ts1 ps p q) n1 (ppF (prF h2.1 n1 (iI p) (iI q) (iI (tS (tmOf k ts1 ps p q)))) n1 ps (np k).toNat) (mx_u h2.2.2 7 n1 (some (1000 + w))) := by
        have pp : ∀ x, x < 3 → ppF (prF h2.1 n1 (iI p) (iI q) (iI (tS (tmOf k ts1 ps p q)))) n1 ps (np k).toNat 8 (3 * n1 + x) = iI (cp (pN ps x)) := by
          intro x hx
          rw [ppF_8]
          by_cases z : x < (np k).toNat
          · rw [if_pos z, pN_lt (by omega)]
            unfold cp
            rw [if_neg (by omega)]
          · rw [if_neg z, (pN_ge (by omega)).1]
            have : x = 0 ∨ x = 1 ∨ x = 2 := by omega
            unfold prF
            rcases this with rfl | rfl | rfl
            · simp (disch := omega) only [↓reduceIte, ii_lit, ii_add, ii_sub, ii_mul, ii_neg, ii_lt_t, ii_lt_f, ii_le_t, ii_le_f, ii_eq_t, ii_eq_f, ii_in, ii_cl, ii_shr, ii_shl, ii_and1, ii_and255, Option.bind_some, Option.toList, List.cons_append, List.nil_append, Int.toNat_natCast, mu_s, mu_c, mu_k, bI_i0, bI_i1, bI_n, nb_0, nb_1, bI_ft, bI_ff, Bool.false_eq_true, reduceCtorEq, Bool.true_eq_false, decide_true, decide_false, eq_self, Int.reduceAdd, Int.reduceSub, Int.reduceMul, Int.reduceNeg, Int.reduceToNat, tn30, tn31, tn32, tn20, tn21, Nat.add_zero]
            · simp (disch := omega) only [↓reduceIte, ii_lit, ii_add, ii_sub, ii_mul, ii_neg, ii_lt_t, ii_lt_f, ii_le_t, ii_le_f, ii_eq_t, ii_eq_f, ii_in, ii_cl, ii_shr, ii_shl, ii_and1, ii_and255, Option.bind_some, Option.toList, List.cons_append, List.nil_append, Int.toNat_natCast, mu_s, mu_c, mu_k, bI_i0, bI_i1, bI_n, nb_0, nb_1, bI_ft, bI_ff, Bool.false_eq_true, reduceCtorEq, Bool.true_eq_false, decide_true, decide_false, eq_self, Int.reduceAdd, Int.reduceSub, Int.reduceMul, Int.reduceNeg, Int.reduceToNat, tn30, tn31, tn32, tn20, tn21]
              rfl
            · simp (disch := omega) only [↓reduceIte, ii_lit, ii_add, ii_sub, ii_mul, ii_neg, ii_lt_t, ii_lt_f, ii_le_t, ii_le_f, ii_eq_t, ii_eq_f, ii_in, ii_cl, ii_shr, ii_shl, ii_and1, ii_and255, Option.bind_some, Option.toList, List.cons_append, List.nil_append, Int.toNat_natCast, mu_s, mu_c, mu_k, bI_i0, bI_i1, bI_n, nb_0, nb_1, bI_ft, bI_ff, Bool.false_eq_true, reduceCtorEq, Bool.true_eq_false, decide_true, decide_false, eq_self, Int.reduceAdd, Int.reduceSub, Int.reduceMul, Int.reduceNeg, Int.reduceToNat, tn30, tn31, tn32, tn20, tn21]
              rfl
        refine ⟨by rw [mu_s, ek, wkk], ?_, pp 0 (by omega), pp 1 (by omega), pp 2 (by omega), ?_, ?_⟩
        · rw [ppF_o (by omega)]; unfold prF; simp (disch := omega) only [↓reduceIte, ii_lit, ii_add, ii_sub, ii_mul, ii_neg, ii_lt_t, ii_lt_f, ii_le_t, ii_le_f, ii_eq_t, ii_eq_f, ii_in, ii_cl, ii_shr, ii_shl, ii_and1, ii_and255, Option.bind_some, Option.toList, List.cons_append, List.nil_append, Int.toNat_natCast, mu_s, mu_c, mu_k, bI_i0, bI_i1, bI_n, nb_0, nb_1, bI_ft, bI_ff, Bool.false_eq_true, reduceCtorEq, Bool.true_eq_false, decide_true, decide_false, eq_self, Int.reduceAdd, Int.reduceSub, Int.reduceMul, Int.reduceNeg, Int.reduceToNat, tn30, tn31, tn32, tn20, tn21]
        · rw [ppF_o (by omega), c1]; unfold prF; simp (disch := omega) only [↓reduceIte, ii_lit, ii_add, ii_sub, ii_mul, ii_neg, ii_lt_t, ii_lt_f, ii_le_t, ii_le_f, ii_eq_t, ii_eq_f, ii_in, ii_cl, ii_shr, ii_shl, ii_and1, ii_and255, Option.bind_some, Option.toList, List.cons_append, List.nil_append, Int.toNat_natCast, mu_s, mu_c, mu_k, bI_i0, bI_i1, bI_n, nb_0, nb_1, bI_ft, bI_ff, Bool.false_eq_true, reduceCtorEq, Bool.true_eq_false, decide_true, decide_false, eq_self, Int.reduceAdd, Int.reduceSub, Int.reduceMul, Int.reduceNeg, Int.reduceToNat, tn30, tn31, tn32, tn20, tn21]
        · rw [ppF_o (by omega), c2]; unfold prF; simp (disch := omega) only [↓reduceIte, ii_lit, ii_add, ii_sub, ii_mul, ii_neg, ii_lt_t, ii_lt_f, ii_le_t, ii_le_f, ii_eq_t, ii_eq_f, ii_in, ii_cl, ii_shr, ii_shl, ii_and1, ii_and255, Option.bind_some, Option.toList, List.cons_append, List.nil_append, Int.toNat_natCast, mu_s, mu_c, mu_k, bI_i0, bI_i1, bI_n, nb_0, nb_1, bI_ft, bI_ff, Bool.false_eq_true, reduceCtorEq, Bool.true_eq_false, decide_true, decide_false, eq_self, Int.reduceAdd, Int.reduceSub, Int.reduceMul, Int.reduceNeg, Int.reduceToNat, tn30, tn31, tn32, tn20, tn21]
      have M := X7_make_c (h := (ppF (prF h2.1 n1 (iI p) (iI q) (iI (tS (tmOf k ts1 ps p q)))) n1 ps (np k).toNat, h2.2.1, mx_u h2.2.2 7 n1 (some (1000 + w)))) TP (by omega) SL t1 t4
      have YY : RdX L lets.length h2 (mx_u (ppF (prF h2.1 n1 (iI p) (iI q) (iI (tS (tmOf k ts1 ps p q)))) n1 ps (np k).toNat) 6 4 (iI (mkN n1 ts1 (tmOf k ts1 ps p q) : Int)), h2.2.1, mx_u h2.2.2 7 n1 (some (1000 + w))) := by
        refine ⟨fun b k p1 p2 p3 p4 p5 p6 p7 p8 => ?_, fun k p => ?_, fun k _ _ => ?_, fun k _ => ?_, fun k _ => ⟨?_, ?_⟩, rfl, fun a p => ?_⟩
        · dsimp only; rw [mu_c _ _ _ _ p1, ppF_o (by omega), prF_o (by omega)]
        · dsimp only; rw [mu_k _ _ p, ppF_o (by omega), prF_o (by omega)]
        · dsimp only; rw [mu_c _ _ _ _ (by decide), ppF_o (by omega), prF_o (by omega)]
        · dsimp only; rw [mu_c _ _ _ _ (by decide), ppF_o (by omega), prF_o (by omega)]
        · dsimp only; rw [mu_c _ _ _ _ (by decide), ppF_o (by omega), prF_o (by omega)]
        · dsimp only; rw [mu_c _ _ _ _ (by decide), ppF_o (by omega), prF_o (by omega)]
        · dsimp only; exact mu_f _ _ _ p
      refine ⟨_, ?_, RdC_x R2 YY (Nat.le_refl _) M.2 (by dsimp only; rw [mu_c _ _ _ _ (by decide), ppF_o (by omega), prF_o (by omega)]; exact R2.2.2.2.2.1), RdX_t (Nat.le_refl _) (Nat.le_refl _) X2 YY⟩
      refine Eq.trans (e_X4_readParts_96 (v1 := some (1000 + w)) (hr0 := rl _ _ rfl (by decide)) ..) ?_
      rw [if_neg (show ¬ iI 1 = 0 by decide)]
      have S1' : mx_C mm_X4_resultSort [.ref 18, mx_rf (some (1000 + w)), .int (iI (3 * (L : Int))), .int (iI (p)), .int (iI (q))] h2 = _ := S1
      rw [S1']
      refine Eq.trans (e_X4_readParts_117 (v1 := some (1000 + w)) (s1 := some (1000 + w)) (hr0 := rl _ _ rfl (by decide)) ..) ?_
      have Pr' : mx_C mm_X7_prepare [.ref 6, mx_rf (some (1000 + w)), .int (iI (p)), .int (iI (q)), .int (iI (resS k (tS (ts1 (ps.getD 0 0))) (tS (ts1 (ps.getD 1 0))) p q))] h2 = _ := Pr
      rw [Pr']
      refine Eq.trans (e_X4_readParts_120 (v1 := some (1000 + w)) ..) ?_
      refine Eq.trans L1 ?_
      refine Eq.trans (e_X4_readParts_163 (v1 := some (1000 + w)) (hr0 := rl _ _ rfl (by decide)) ..) ?_
      rw [M.1]
      exact e_X4_readParts_170 (v1 := some (1000 + w)) ..
    · rw [if_neg q1]
      have B1 := X4_bracket_f o2 (by omega) (by decide) q1
      have B1' : mx_C mm_X4_bracket [.ref 18, .int 41] h1 = _ := B1
      rw [B1']
      refine RdO_f ?_ (by omega) o2 b5 b6 o4
      refine Eq.trans (e_X4_readParts_96 (v1 := some (1000 + w)) (hr0 := rl _ _ rfl (by decide)) ..) ?_
      rw [if_pos (show iI 0 = 0 from rfl)]
      rfl
end RC
