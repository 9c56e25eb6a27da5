/-! the reference's number, isName, sorts -/
/-- a name that may be declared or let -/
def vName (L : List Nat) : Prop := 1 ≤ L.length ∧ L.length ≤ 4 ∧ (∀ x, x ∈ L → isLet (x : Int) = true) ∧ ∀ w, w < 42 → L ≠ mx_txt w
theorem vName_l {L : List Nat} (h : vName L) : lets4 L := ⟨h.1, h.2.1, fun x hx => by have := isLet_b (h.2.2.1 x hx); omega⟩
section TJ
variable {c : Nat → Int} {len j : Nat} {h : mx_H}
theorem beF_nz : ∀ (d i : Nat) (v : Int), 0 ≤ v → (1 ≤ d ∨ 1 ≤ v) → (∀ k, k < d → isLet (c (i + k)) = true) → beF c d i v ≠ 0 := by
  intro d
  induction d with
  | zero => intro i v hv h1 _; show v ≠ 0; omega
  | succ d ih =>
    intro i v hv _ hl
    have l0 := hl 0 (by omega)
    rw [Nat.add_zero] at l0
    have b := isLet_b l0
    unfold beF
    rw [if_pos l0]
    exact ih (i + 1) _ (by omega) (by omega) (fun k hk => by have := hl (k + 1) (by omega); rw [show i + (k + 1) = i + 1 + k by omega] at this; exact this)
theorem jN_v (hc : ∀ i, i < len → 32 ≤ c i ∧ c i ≤ 126) : jN c len j ≠ 0 ↔ vName (jL c len j) := by
  have tb := tE_b (c := c) (tB_le (c := c) (len := len) j)
  have ll : (jL c len j).length = tE c len (tB c len j) - tB c len j := tkL_len _ _ _
  constructor
  · intro q
    have nl := jN_l q
    refine ⟨nl.1.1, nl.1.2.1, ?_, ?_⟩
    · have a := nm_l q
      unfold jN at q
      rw [a.2] at q
      have b := beF_l _ _ _ q
      intro x hx
      unfold jL tkL at hx
      obtain ⟨k, hk, rfl⟩ := List.mem_map.mp hx
      have hk := List.mem_range.mp hk
      rw [Int.toNat_of_nonneg (by have := hc (tB c len j + k) (by omega); omega)]
      exact b.1 k hk
    · intro w hw z
      have := (wdx_iff hw).mpr z
      have n := nl.2.2.2
      unfold jW at n
      rw [n] at this
      cases this
  · intro ⟨v1, v2, v3, v4⟩
    have wn : wdx c (tB c len j) (tE c len (tB c len j)) = none := by
      cases w : wdx c (tB c len j) (tE c len (tB c len j)) with
      | none => rfl
      | some w' => exact absurd ((wdx_iff (wdx_lt w)).mp w) (v4 w' (wdx_lt w))
    unfold jN nameA
    rw [if_pos ⟨by omega, by omega, wn⟩]
    refine beF_nz _ _ _ (by decide) (Or.inl (by omega)) (fun k hk => ?_)
    have := v3 ((c (tB c len j + k)).toNat) (by unfold jL tkL; exact List.mem_map.mpr ⟨k, List.mem_range.mpr hk, rfl⟩)
    rw [Int.toNat_of_nonneg (by have := hc (tB c len j + k) (by omega); omega)] at this
    exact this
theorem X11_number_56 (T : TxtM c len h.1) {e : Nat} (he : h.1 47 4 = iI (e : Int)) (hl : e ≤ len) (v1 : Int32) : ∀ (d i : Nat) (g : Bool) (v : Int), i + d = e → mx_D (3, mm_X11_number, 56, [.ref 47, .int v1, .int (bI g), .int (iI (v)), .int (iI ((i : Int)))], []) h = some (some (.int (iI (if g = true then numF c d i v else -1))), h) := by
  obtain ⟨T1, T2, T3, T4⟩ := T
  intro d
  induction d with
  | zero =>
    intro i g v hi
    rw [e_X11_number_56, he, if_pos ((ii_le (by omega)).mpr (by omega)), e_X11_number_102]
    cases g with
    | true => rw [if_neg (show ¬ bI true = 0 by decide), e_X11_number_111]; rfl
    | false => rw [if_pos (show bI false = 0 from rfl), e_X11_number_111]; rfl
  | succ d ih =>
    intro i g v hi
    rw [e_X11_number_56, he, if_neg (fun z => by have := (ii_le (by omega)).mp z; omega)]
    cases g with
    | false => rw [if_pos (show bI false = 0 from rfl), e_X11_number_102, if_pos (show bI false = 0 from rfl), e_X11_number_111]; rfl
    | true =>
      have b := T4 i (by omega)
      rw [if_neg (show ¬ bI true = 0 by decide), if_pos (in_t (a := (i : Int)) (n := 120) (by omega)), ii_cl (by omega), Int.toNat_natCast, T2 i (by omega), X11_isDigit_c h (by omega)]
      refine Eq.trans (e_X11_number_79 ..) ?_
      rw [if_pos (in_t (a := (i : Int)) (n := 120) (by omega)), ii_cl (by omega), Int.toNat_natCast, T2 i (by omega), ii_s1, show (10 : Int32) = iI 10 from rfl, show (48 : Int32) = iI 48 from rfl, ii_mul, ii_add, ii_sub, ih (i + 1) _ _ (by omega)]
      rw [if_pos rfl, show numF c (d + 1) i v = if isDig (c i) = true then numF c d (i + 1) (10 * v + c i - 48) else -1 from rfl]
theorem X11_number_c (J : TkJ c len j h) : mx_C mm_X11_number [.ref 47] h = some (some (.int (iI (jU c len j))), h) := by
  obtain ⟨T, t1, t2, t3, t4, t5⟩ := J
  have tb := tE_b (c := c) (jB_le (c := c) (len := len) j)
  obtain ⟨T1, T2, T3, T4⟩ := id T
  have bl : jB c len j = tB c len j := rfl
  have jl := jB_le (c := c) (len := len) j
  rw [c_X11_number, e_X11_number_0, t1, t2, t3, ii_sub]
  have L := fun g => X11_number_56 (c := c) (len := len) T t2 tb.2.1 (iI ((tE c len (jB c len j) : Int) - (jB c len j : Int))) (tE c len (jB c len j) - jB c len j) (jB c len j) g 0 (by omega)
  have go : ∀ g : Bool, mx_D (3, mm_X11_number, 47, [.ref 47, .int (iI ((tE c len (jB c len j) : Int) - (jB c len j : Int))), mx_junk, mx_junk, mx_junk], [.int (bI g)]) h = some (some (.int (iI (if g = true then numF c (tE c len (jB c len j) - jB c len j) (jB c len j) 0 else -1))), h) := by
    intro g
    rw [e_X11_number_47, t1]
    exact L g
  have g0 := go false
  have g1 := go true
  rw [if_pos rfl] at g1
  rw [if_neg (by decide)] at g0
  have f46 : mx_D (3, mm_X11_number, 46, [.ref 47, .int (iI ((tE c len (jB c len j) : Int) - (jB c len j : Int))), mx_junk, mx_junk, mx_junk], []) h = some (some (.int (iI (-1))), h) := by rw [e_X11_number_46]; exact g0
  have f42 : mx_D (3, mm_X11_number, 42, [.ref 47, .int (iI ((tE c len (jB c len j) : Int) - (jB c len j : Int))), mx_junk, mx_junk, mx_junk], []) h = some (some (.int (iI (numF c (tE c len (jB c len j) - jB c len j) (jB c len j) 0))), h) := by rw [e_X11_number_42]; exact g1
  by_cases p3 : jS c len j = 3
  · have p3' : tso c len (jB c len j) = 3 := p3
    have s3 := (tso_3 jl).mp p3'
    rw [p3', if_pos (show iI 3 = 3 from rfl)]
    by_cases q1 : 2 < tE c len (jB c len j) - jB c len j
    · have e : jU c len j = -1 := by unfold jU numA; rw [if_neg (by rw [← bl]; omega)]
      rw [if_pos (show (2 : Int32) < iI _ from (ii_lt (a := 2) (by omega)).mpr (by omega)), f46, e]
    rw [if_neg (show ¬ (2 : Int32) < iI _ from fun z => by have := (ii_lt (a := 2) (by omega)).mp z; omega)]
    by_cases q2 : tE c len (jB c len j) - jB c len j = 2
    · rw [if_pos (show iI _ = (2 : Int32) from (ii_eq (b := 2) (by omega) (by decide)).mpr (by omega)), if_pos (in_t (a := (jB c len j : Int)) (n := 120) (by omega)), ii_cl (by omega), Int.toNat_natCast, T2 _ s3.1]
      have cb := T4 _ s3.1
      by_cases q3 : c (jB c len j) = 48
      · have e : jU c len j = -1 := by unfold jU numA; rw [if_neg (by rw [← bl]; omega)]
        rw [q3, if_pos (show iI 48 = 48 from rfl), f46, e]
      · have e : jU c len j = numF c (tE c len (jB c len j) - jB c len j) (jB c len j) 0 := by unfold jU numA; rw [if_pos (by rw [← bl]; omega)]; rfl
        rw [if_neg (show ¬ iI (c (jB c len j)) = 48 from fun z => q3 ((ii_eq (b := 48) (by omega) (by decide)).mp z)), f42, e]
    · rw [if_neg (show ¬ iI _ = (2 : Int32) from fun z => q2 (by have := (ii_eq (b := 2) (by omega) (by decide)).mp z; omega)), f42]
      have e : jU c len j = numF c (tE c len (jB c len j) - jB c len j) (jB c len j) 0 := by unfold jU numA; rw [if_pos (by rw [← bl]; have := tb.2.2; omega)]; rfl
      rw [e]
  · rw [if_neg (c := iI (tso c len (jB c len j)) = 3) (jS_n (k := 3) (by decide) p3), f46]
    have e : jU c len j = -1 := by
      apply Decidable.byContradiction
      intro z
      have l := jU_l z
      unfold jU numA at z
      by_cases y : 1 ≤ tE c len (tB c len j) - tB c len j ∧ tE c len (tB c len j) - tB c len j ≤ 2 ∧ ¬ (tE c len (tB c len j) - tB c len j = 2 ∧ c (tB c len j) = 48)
      · rw [if_pos y] at z
        apply p3
        refine (tso_3 jl).mpr ?_
        have b1 : jB c len j < len := by
          apply Decidable.byContradiction
          intro x
          have : tE c len (tB c len j) = tB c len j := by unfold tE; rw [if_neg (by rw [← bl]; exact x)]
          omega
        refine ⟨b1, ?_, by rw [bl]; omega⟩
        apply Decidable.byContradiction
        intro ns
        have : tE c len (tB c len j) = tB c len j + 1 := by unfold tE; rw [if_pos (by rw [← bl]; exact b1), if_neg (by rw [← bl]; exact ns)]
        rw [show tE c len (tB c len j) - tB c len j = 0 + 1 by omega] at z
        unfold numF at z
        have nd : ¬ isDig (c (tB c len j)) = true := by
          intro d
          apply ns
          have := of_decide_eq_true d
          exact decide_eq_true (by rw [bl]; omega)
        rw [if_neg nd] at z
        exact z rfl
      · rw [if_neg y] at z; exact z rfl
    rw [e]
theorem X11_isName_46 (T : TxtM c len h.1) {e : Nat} (he : h.1 47 4 = iI (e : Int)) (hl : e ≤ len) : ∀ (d i : Nat) (g : Bool), i + d = e → ∃ v2, mx_D (3, mm_X11_isName, 46, [.ref 47, .int (bI g), .int (iI ((i : Int)))], []) h = mx_D (3, mm_X11_isName, 74, [.ref 47, .int (bI (g && decide (∀ k, k < d → isLet (c (i + k)) = true))), .int v2], []) h := by
  obtain ⟨T1, T2, T3, T4⟩ := T
  intro d
  induction d with
  | zero =>
    intro i g hi
    refine ⟨iI (i : Int), ?_⟩
    rw [e_X11_isName_46, he, if_pos ((ii_le (by omega)).mpr (by omega)), decide_eq_true (fun k hk => absurd hk (Nat.not_lt_zero k)), Bool.and_true]
  | succ d ih =>
    intro i g hi
    rw [e_X11_isName_46, he, if_neg (fun z => by have := (ii_le (by omega)).mp z; omega)]
    cases g with
    | false => exact ⟨iI (i : Int), by rw [if_pos (show bI false = 0 from rfl), Bool.false_and]⟩
    | true =>
      have b := T4 i (by omega)
      rw [if_neg (show ¬ bI true = 0 by decide), if_pos (in_t (a := (i : Int)) (n := 120) (by omega)), ii_cl (by omega), Int.toNat_natCast, T2 i (by omega), X11_isLetter_c h (by omega)]
      obtain ⟨v2, e2⟩ := ih (i + 1) (isLet (c i)) (by omega)
      refine ⟨v2, ?_⟩
      refine Eq.trans (e_X11_isName_67 ..) ?_
      rw [ii_s1, e2, Bool.true_and]
      have : (isLet (c i) && decide (∀ k, k < d → isLet (c (i + 1 + k)) = true)) = decide (∀ k, k < d + 1 → isLet (c (i + k)) = true) := by
        cases q : isLet (c i) with
        | true =>
          rw [Bool.true_and]
          apply decide_eq_decide.mpr
          constructor
          · intro z k hk
            cases k with
            | zero => rw [Nat.add_zero]; exact q
            | succ k => have := z k (by omega); rw [show i + 1 + k = i + (k + 1) by omega] at this; exact this
          · intro z k hk
            have := z (k + 1) (by omega)
            rw [show i + (k + 1) = i + 1 + k by omega] at this
            exact this
        | false =>
          rw [Bool.false_and]
          symm
          apply decide_eq_false
          intro z
          have := z 0 (by omega)
          rw [Nat.add_zero, q] at this
          cases this
      rw [this]
theorem w4_names : ∀ w : Fin 42, (mx_txt w.val).length ≤ 4 → (∀ x, x ∈ mx_txt w.val → isLet ((x : Nat) : Int) = true) → kdW (some w.val) < 0 → w.val = 0 ∨ w.val = 6 ∨ w.val = 7 ∨ w.val = 8 := by decide +kernel
theorem kdW_b (o : Option Nat) (ho : ∀ w, o = some w → w < 42) : -1 ≤ kdW o ∧ kdW o ≤ 35 := by
  cases o with
  | none => exact ⟨by decide, by decide⟩
  | some w =>
    have := ho w rfl
    unfold kdW
    dsimp only
    split
    · decide
    · split
      · omega
      · decide
theorem hi4 {L : List Nat} (h : L.length ≤ 8) : hiL L = 0 := by
  unfold hiL
  rw [List.drop_of_length_le h]
  rfl
theorem X11_isName_c (J : TkJ c len j h) : mx_C mm_X11_isName [.ref 47] h = some (some (.int (bI (decide (jN c len j ≠ 0)))), h) := by
  obtain ⟨T, t1, t2, t3, t4, t5⟩ := id J
  have tb := tE_b (c := c) (jB_le (c := c) (len := len) j)
  obtain ⟨T1, T2, T3, T4⟩ := id T
  have jl := jB_le (c := c) (len := len) j
  have jv := jN_v (c := c) (len := len) (j := j) T4
  have bl : jB c len j = tB c len j := rfl
  have lL : (jL c len j).length = tE c len (jB c len j) - jB c len j := tkL_len _ _ _
  rw [c_X11_isName, e_X11_isName_0, t1, t2, t3, ii_sub]
  obtain ⟨va, la⟩ := X11_isName_46 (c := c) (len := len) T t2 tb.2.1 (tE c len (jB c len j) - jB c len j) (jB c len j) false (by omega)
  obtain ⟨vb, lb⟩ := X11_isName_46 (c := c) (len := len) T t2 tb.2.1 (tE c len (jB c len j) - jB c len j) (jB c len j) true (by omega)
  rw [Bool.false_and] at la
  rw [Bool.true_and] at lb
  have f126 : ∀ v1 v2, mx_D (3, mm_X11_isName, 126, [.ref 47, .int v1, .int v2], []) h = some (some (.int (iI (0))), h) := by
    intro v1 v2
    rw [e_X11_isName_126, e_X11_isName_127]
    exact if_pos rfl
  have f39 : mx_D (3, mm_X11_isName, 39, [.ref 47, mx_junk, mx_junk], []) h = some (some (.int (iI (0))), h) := by
    rw [e_X11_isName_39, e_X11_isName_40, t1]
    refine Eq.trans la ?_
    rw [e_X11_isName_74, if_pos (show bI false = 0 from rfl), f126]
  have no : ¬ vName (jL c len j) → some (some (.int (iI (0))), h) = (some (some (.int (bI (decide (jN c len j ≠ 0)))), h) : Option mx_O) := by
    intro z
    rw [decide_eq_false (fun y => z (jv.mp y))]
    rfl
  by_cases p3 : jS c len j = 3
  rotate_left
  · rw [if_neg (c := iI (tso c len (jB c len j)) = 3) (jS_n (k := 3) (by decide) p3), f39]
    refine no (fun z => p3 ((tso_3 jl).mpr ?_))
    have b1 : jB c len j < len := by
      apply Decidable.byContradiction
      intro x
      have : tE c len (jB c len j) = jB c len j := by unfold tE; rw [if_neg x]
      have := z.1
      omega
    have fl := z.2.2.1 ((c (jB c len j)).toNat) (by
      unfold jL tkL
      refine List.mem_map.mpr ⟨0, List.mem_range.mpr ?_, by rw [Nat.add_zero]; rfl⟩
      have := z.1
      rw [← bl]
      omega)
    rw [Int.toNat_of_nonneg (by have := T4 _ b1; omega)] at fl
    have := of_decide_eq_true fl
    refine ⟨b1, decide_eq_true (by omega), ?_⟩
    have := z.2.1
    omega
  have p3' : tso c len (jB c len j) = 3 := p3
  have s3 := (tso_3 jl).mp p3'
  have tl : tsL c len (jB c len j) = jL c len j := tsL_3 jl p3'
  have tpos := tb.2.2 s3.1
  rw [p3', if_pos (show iI 3 = 3 from rfl)]
  by_cases q1 : 4 < tE c len (jB c len j) - jB c len j
  · rw [if_pos (show (4 : Int32) < iI _ from (ii_lt (a := 4) (by omega)).mpr (by omega)), f39]
    exact no (fun z => by have := z.2.1; omega)
  rw [if_neg (show ¬ (4 : Int32) < iI _ from fun z => by have := (ii_lt (a := 4) (by omega)).mp z; omega), X11_kindOf_c, t4, t5, kd_t T4 jl p3']
  have kb := kdW_b (jW c len j) (fun w z => jW_lt z)
  have st32 : ((some (some (.int (iI (kdW (wdx c (jB c len j) (tE c len (jB c len j)))))), h) : Option mx_O).bind fun o => mx_D (3, mm_X11_isName, 32, [.ref 47, mx_junk, mx_junk], o.1.toList ++ []) o.2) = _ := e_X11_isName_32 (s0 := iI (kdW (jW c len j))) ..
  rw [st32]
  by_cases q2 : 0 ≤ kdW (jW c len j)
  · rw [if_pos (show (0 : Int32) ≤ iI _ from (ii_le (a := 0) (by omega)).mpr (by omega)), f39]
    refine no (fun z => ?_)
    cases w : jW c len j with
    | none => rw [w] at q2; exact absurd q2 (by decide)
    | some w' => exact z.2.2.2 w' (jW_lt w) ((wdx_iff (jW_lt w)).mp w)
  rw [if_neg (show ¬ (0 : Int32) ≤ iI _ from fun z => q2 (by have := (ii_le (a := 0) (by omega)).mp z; omega)), e_X11_isName_40, t1]
  refine Eq.trans lb ?_
  rw [e_X11_isName_74]
  simp only [lg0]
  by_cases q3 : ∀ k, k < tE c len (jB c len j) - jB c len j → isLet (c (jB c len j + k)) = true
  rotate_left
  · rw [decide_eq_false q3, if_pos (show bI false = 0 from rfl), f126]
    refine no (fun z => q3 (fun k hk => ?_))
    have := z.2.2.1 ((c (jB c len j + k)).toNat) (by unfold jL tkL; exact List.mem_map.mpr ⟨k, List.mem_range.mpr hk, rfl⟩)
    rw [Int.toNat_of_nonneg (by have := T4 (jB c len j + k) (by omega); omega)] at this
    exact this
  rw [decide_eq_true q3, if_neg (show ¬ bI true = 0 by decide), t4, tl]
  have ls : ∀ x, x ∈ jL c len j → isLet ((x : Nat) : Int) = true := by
    intro x hx
    unfold jL tkL at hx
    obtain ⟨k, hk, rfl⟩ := List.mem_map.mp hx
    have hk := List.mem_range.mp hk
    rw [← bl] at hk
    rw [← bl, Int.toNat_of_nonneg (by have := T4 (jB c len j + k) (by omega); omega)]
    exact q3 k hk
  have cmp : ∀ (w : Nat) (lo : Int64), w < 42 → loL (mx_txt w) = lo → hiL (mx_txt w) = 0 → (loL (jL c len j) = lo ↔ jL c len j = mx_txt w) := by
    intro w lo hw h1 h2
    constructor
    · intro z
      refine pk_inj ?_ (txt_c ⟨w, hw⟩) (by omega) (txt_len ⟨w, hw⟩).2 (z.trans h1.symm) ((hi4 (by omega)).trans h2.symm)
      rw [← tl]; exact tsL_c T4
    · intro z; rw [z]; exact h1
  by_cases v0 : jL c len j = mx_txt 0
  · rw [if_pos ((cmp 0 _ (by decide) (by decide) (by decide)).mpr v0), f126]
    exact no (fun z => z.2.2.2 0 (by decide) v0)
  rw [if_neg (fun z => v0 ((cmp 0 _ (by decide) (by decide) (by decide)).mp z))]
  by_cases v6 : jL c len j = mx_txt 6
  · rw [if_pos ((cmp 6 _ (by decide) (by decide) (by decide)).mpr v6), f126]
    exact no (fun z => z.2.2.2 6 (by decide) v6)
  rw [if_neg (fun z => v6 ((cmp 6 _ (by decide) (by decide) (by decide)).mp z))]
  by_cases v7 : jL c len j = mx_txt 7
  · rw [if_pos ((cmp 7 _ (by decide) (by decide) (by decide)).mpr v7), f126]
    exact no (fun z => z.2.2.2 7 (by decide) v7)
  rw [if_neg (fun z => v7 ((cmp 7 _ (by decide) (by decide) (by decide)).mp z))]
  by_cases v8 : jL c len j = mx_txt 8
  · rw [if_pos ((cmp 8 _ (by decide) (by decide) (by decide)).mpr v8), f126]
    exact no (fun z => z.2.2.2 8 (by decide) v8)
  rw [if_neg (fun z => v8 ((cmp 8 _ (by decide) (by decide) (by decide)).mp z)), e_X11_isName_127]
  have yes : vName (jL c len j) := by
    refine ⟨by omega, by omega, ls, fun w hw z => ?_⟩
    have := w4_names ⟨w, hw⟩ (by dsimp only; rw [← z]; omega) (by dsimp only; rw [← z]; exact ls) (by
      dsimp only
      have : jW c len j = some w := (wdx_iff hw).mpr z
      rw [this] at q2
      omega)
    dsimp only at this
    rcases this with rfl | rfl | rfl | rfl
    · exact v0 z
    · exact v6 z
    · exact v7 z
    · exact v8 z
  rw [decide_eq_true (jv.mpr yes)]
  exact if_pos rfl
end TJ
