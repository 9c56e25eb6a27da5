/-! the class's circuits: what stands in the cells -/
/-- the cell holds a literal with a meaning -/
def CL (z : Nat) (gs : Nat → Gt) (Q : (Nat → Prop) → Prop) (h : mx_H) (a k : Nat) (g : Int → Bool) : Prop := ∃ l : Nat, h.1 a k = iI (l : Int) ∧ Lm z gs Q l g
/-- more gates; of the other cells only those of T have changed -/
def GY (m : Nat) (T : Nat → Nat → Prop) (z : Nat) (gs : Nat → Gt) (h : mx_H) (z' : Nat) (gs' : Nat → Gt) (h' : mx_H) : Prop := GtC z' gs' h'.1 ∧ GW z' gs' ∧ z ≤ z' ∧ z' ≤ z + m ∧ (∀ g, g < z → gs' g = gs g) ∧ (∀ a k, ¬ (23 ≤ a ∧ a ≤ 26) → (a ≠ 22 ∨ k ≠ 5) → ¬ T a k → h'.1 a k = h.1 a k) ∧ h'.2 = h.2
def Cx (n b : Nat) (ts : Nat → Tm) (h : mx_H) : Prop := h.1 28 3 = iI (b : Int) ∧ b < n ∧ n ≤ 60 ∧ TermC n ts h.1 h.2.2
section CY
variable {z : Nat} {gs : Nat → Gt} {h : mx_H} {Q : (Nat → Prop) → Prop}
theorem GY_r {m : Nat} {T : Nat → Nat → Prop} (G : GtC z gs h.1) (W : GW z gs) : GY m T z gs h z gs h := ⟨G, W, Nat.le_refl _, by omega, fun _ _ => rfl, fun _ _ _ _ _ => rfl, rfl⟩
theorem GY_g {m : Nat} {T : Nat → Nat → Prop} {z' : Nat} {gs' : Nat → Gt} {h' : mx_H} (X : GX m z gs h z' gs' h') : GY m T z gs h z' gs' h' := by
  obtain ⟨x1, x2, x3, x4, x5, x6⟩ := X
  exact ⟨x1, x2, x3, x4, x5, fun a k p q _ => x6.1 a k p q, x6.2⟩
theorem GY_t {m m' m'' : Nat} {T T' T'' : Nat → Nat → Prop} {z1 z2 : Nat} {gs1 gs2 : Nat → Gt} {h1 h2 : mx_H} (a : GY m T z gs h z1 gs1 h1) (b : GY m' T' z1 gs1 h1 z2 gs2 h2) (hm : m + m' ≤ m'') (hT : ∀ a k, T a k → T'' a k) (hT' : ∀ a k, T' a k → T'' a k) : GY m'' T'' z gs h z2 gs2 h2 := by
  obtain ⟨a1, a2, a3, a4, a5, a6, a7⟩ := a
  obtain ⟨b1, b2, b3, b4, b5, b6, b7⟩ := b
  exact ⟨b1, b2, by omega, by omega, fun g hg => by rw [b5 g (by omega), a5 g hg], fun x k p q r => by rw [b6 x k p q (fun e => r (hT' x k e)), a6 x k p q (fun e => r (hT x k e))], by rw [b7, a7]⟩
theorem GY_w {m m' : Nat} {T T' : Nat → Nat → Prop} {z' : Nat} {gs' : Nat → Gt} {h' : mx_H} (a : GY m T z gs h z' gs' h') (hm : m ≤ m') (hT : ∀ a k, T a k → T' a k) : GY m' T' z gs h z' gs' h' := by
  obtain ⟨a1, a2, a3, a4, a5, a6, a7⟩ := a
  exact ⟨a1, a2, a3, by omega, a5, fun x k p q r => a6 x k p q (fun e => r (hT x k e)), a7⟩
theorem GY_u {m : Nat} {T : Nat → Nat → Prop} {a k : Nat} {v : Int32} (G : GtC z gs h.1) (W : GW z gs) (ha : 29 ≤ a) (hT : T a k) : GY m T z gs h z gs (mx_u h.1 a k v, h.2.1, h.2.2) := by
  obtain ⟨G1, G2, G3, G4⟩ := G
  refine ⟨⟨by dsimp only; rw [mu_c _ _ _ _ (by omega)]; exact G1, G2, G3, fun g h1 h2 => ?_⟩, W, Nat.le_refl _, by omega, fun _ _ => rfl, fun x j p q r => ?_, rfl⟩
  · dsimp only
    rw [mu_c _ _ _ _ (by omega), mu_c _ _ _ _ (by omega), mu_c _ _ _ _ (by omega), mu_c _ _ _ _ (by omega)]
    exact G4 g h1 h2
  · dsimp only [mx_u]
    rw [if_neg (fun e => r (by rw [e.1, e.2]; exact hT))]
theorem Lm_y {m : Nat} {T : Nat → Nat → Prop} {z' : Nat} {gs' : Nat → Gt} {h' : mx_H} {l : Nat} {f : Int → Bool} (W : GW z gs) (X : GY m T z gs h z' gs' h') (a : Lm z gs Q l f) : Lm z' gs' Q l f := by
  obtain ⟨x1, x2, x3, x4, x5, x6⟩ := X
  exact ⟨by have := a.1; omega, fun x => by rw [lv_x W x2 x3 x5 a.1]; exact a.2.1 x, fun I hI => gal_x x3 x5 (a.2.2 I hI)⟩
theorem CL_y {m : Nat} {T : Nat → Nat → Prop} {z' : Nat} {gs' : Nat → Gt} {h' : mx_H} {a k : Nat} {f : Int → Bool} (W : GW z gs) (X : GY m T z gs h z' gs' h') (ha : 27 ≤ a) (hT : ¬ T a k) (c : CL z gs Q h a k f) : CL z' gs' Q h' a k f := by
  obtain ⟨l, e1, e2⟩ := c
  exact ⟨l, by rw [X.2.2.2.2.2.1 a k (by omega) (by omega) hT]; exact e1, Lm_y W X e2⟩
theorem CL_n {a k : Nat} {l : Nat} {f : Int → Bool} (e : Lm z gs Q l f) : CL z gs Q (mx_u h.1 a k (iI (l : Int)), h.2.1, h.2.2) a k f := ⟨l, mu_s _ _ _ _, e⟩
theorem CL_f {a k : Nat} {f f' : Int → Bool} (e : ∀ x, f x = f' x) (c : CL z gs Q h a k f) : CL z gs Q h a k f' := by
  obtain ⟨l, e1, e2⟩ := c
  exact ⟨l, e1, Lm_f e2 e⟩
theorem TermC_q {n : Nat} {ts : Nat → Tm} {h h' : mx_H} (T : TermC n ts h.1 h.2.2) (e : ∀ a k, a ≤ 10 → h'.1 a k = h.1 a k) (e2 : h'.2.2 = h.2.2) : TermC n ts h'.1 h'.2.2 := by
  obtain ⟨T1, T2, T3⟩ := T
  refine ⟨by rw [e _ _ (by omega)]; exact T1, T2, fun t ht => ⟨?_, (T3 t ht).2⟩⟩
  unfold SlotC
  rw [e _ _ (by omega), e _ _ (by omega), e _ _ (by omega), e _ _ (by omega), e _ _ (by omega), e _ _ (by omega), e2]
  exact (T3 t ht).1
theorem Cx_y {n b m : Nat} {ts : Nat → Tm} {T : Nat → Nat → Prop} {z' : Nat} {gs' : Nat → Gt} {h' : mx_H} (X : GY m T z gs h z' gs' h') (hT : ∀ a k, T a k → 29 ≤ a) (c : Cx n b ts h) : Cx n b ts h' := by
  obtain ⟨c1, c2, c3, c4⟩ := c
  have x6 := X.2.2.2.2.2
  have e : ∀ a k, ¬ (22 ≤ a ∧ a ≤ 26) → a < 29 → h'.1 a k = h.1 a k := fun a k p q => x6.1 a k (by omega) (by omega) (fun w => by have := hT a k w; omega)
  exact ⟨by rw [e 28 3 (by omega) (by omega)]; exact c1, c2, c3, TermC_q c4 (fun a k ha => e a k (by omega) (by omega)) (by rw [x6.2])⟩
/-- the result of a method without an answer, and of one with a literal -/
def Gv (m : Nat) (T : Nat → Nat → Prop) (z : Nat) (gs : Nat → Gt) (h : mx_H) (P : Nat → (Nat → Gt) → mx_H → Prop) (X : Option mx_O) : Prop := ∃ z' gs' h', X = some (none, h') ∧ GY m T z gs h z' gs' h' ∧ P z' gs' h'
def Gl (m : Nat) (T : Nat → Nat → Prop) (z : Nat) (gs : Nat → Gt) (h : mx_H) (Q : (Nat → Prop) → Prop) (f : Int → Bool) (P : Nat → (Nat → Gt) → mx_H → Prop) (X : Option mx_O) : Prop := ∃ (r : Nat) (z' : Nat) (gs' : Nat → Gt) (h' : mx_H), X = some (some (.int (iI ((r : Int)))), h') ∧ GY m T z gs h z' gs' h' ∧ Lm z' gs' Q r f ∧ P z' gs' h'
variable {n b : Nat} {ts : Nat → Tm}
theorem X1_bitOf_v {t i : Nat} (c : h.1 28 3 = iI (b : Int)) (hb : b ≤ 60) (ht : t < b) (hi : i < 8) : mx_C mm_X1_bitOf [.ref 28, .int (iI ((t : Int))), .int (iI ((i : Int)))] h = some (some (.int (h.1 29 (8 * t + i))), h) := by
  have e : (8 * (t : Int) + (i : Int)).toNat = 8 * t + i := by omega
  rw [c_X1_bitOf, e_X1_bitOf_0]
  simp (disch := omega) only [↓reduceIte, ii_lit, ii_add, ii_sub, ii_mul, ii_neg, ii_lt_t, ii_lt_f, ii_le_t, ii_le_f, ii_eq_t, ii_eq_f, ii_in, ii_cl, ii_shr, ii_shl, ii_and1, ii_and255, Option.bind_some, Option.toList, List.cons_append, List.nil_append, Int.toNat_natCast, mu_s, mu_c, mu_k, bI_i0, bI_i1, bI_n, nb_0, nb_1, bI_ft, bI_ff, Bool.false_eq_true, reduceCtorEq, Bool.true_eq_false, decide_true, decide_false, eq_self, Int.reduceAdd, Int.reduceSub, Int.reduceMul, Int.reduceNeg, Int.reduceToNat, tn30, tn31, tn32, tn20, tn21, c, e_X1_bitOf_37, e]
theorem X1_bitOf_n {i : Nat} (hi : i < 8) : mx_C mm_X1_bitOf [.ref 28, .int (-1), .int (iI ((i : Int)))] h = some (some (.int (iI (((1 : Nat) : Int)))), h) := by
  rw [c_X1_bitOf, e_X1_bitOf_0, if_pos (by decide), e_X1_bitOf_36, e_X1_bitOf_37]
  rfl
theorem bit_l {t i : Nat} {f : Int → Bool} (c : Cx n b ts h) (ht : t < b) (hi : i < 8) (B : CL z gs Q h 29 (8 * t + i) f) : ∃ l : Nat, mx_C mm_X1_bitOf [.ref 28, .int (iI ((t : Int))), .int (iI ((i : Int)))] h = some (some (.int (iI ((l : Int)))), h) ∧ Lm z gs Q l f := by
  obtain ⟨l, e1, e2⟩ := B
  obtain ⟨c1, c2, c3, c4⟩ := c
  exact ⟨l, by rw [X1_bitOf_v c1 (by omega) ht hi, e1], e2⟩
theorem X1_set_c {i : Nat} {v : Int32} (c : Cx n b ts h) (hi : i < 8) : mx_C mm_X1_set [.ref 28, .int (iI ((i : Int))), .int v] h = some (none, (mx_u h.1 29 (8 * b + i) v, h.2.1, h.2.2)) := by
  obtain ⟨c1, c2, c3, c4⟩ := c
  have e : (8 * (b : Int) + (i : Int)).toNat = 8 * b + i := by omega
  rw [c_X1_set, e_X1_set_0]
  simp (disch := omega) only [↓reduceIte, ii_lit, ii_add, ii_sub, ii_mul, ii_neg, ii_lt_t, ii_lt_f, ii_le_t, ii_le_f, ii_eq_t, ii_eq_f, ii_in, ii_cl, ii_shr, ii_shl, ii_and1, ii_and255, Option.bind_some, Option.toList, List.cons_append, List.nil_append, Int.toNat_natCast, mu_s, mu_c, mu_k, bI_i0, bI_i1, bI_n, nb_0, nb_1, bI_ft, bI_ff, Bool.false_eq_true, reduceCtorEq, Bool.true_eq_false, decide_true, decide_false, eq_self, Int.reduceAdd, Int.reduceSub, Int.reduceMul, Int.reduceNeg, Int.reduceToNat, tn30, tn31, tn32, tn20, tn21, c1, e_X1_set_34, e]
theorem X1_widthOf_c {t : Nat} (c : Cx n b ts h) (ht : t < n) : mx_C mm_X1_widthOf [.ref 28, .int (iI ((t : Int)))] h = some (some (.int (iI (((bitsS (tS (ts t))).toNat : Int)))), h) := by
  obtain ⟨c1, c2, c3, c4⟩ := c
  have sb := (c4.2.2 t ht).2.2.1
  have b1 := bitsS_b sb
  rw [c_X1_widthOf, e_X1_widthOf_0, X7_sortOf_c c4 ht]
  refine Eq.trans (e_X1_widthOf_8 ..) ?_
  rw [X10_bitsOf_c h sb]
  refine Eq.trans (e_X1_widthOf_11 ..) ?_
  rw [Int.toNat_of_nonneg (by omega)]
theorem ii_s (i : Nat) : iI (i : Int) + 1 = iI ((i + 1 : Nat) : Int) := by rw [show (1 : Int32) = iI 1 from rfl, ii_add]; rfl
/-- equality, bit by bit -/
def eqB (f g : Nat → Int → Bool) : Nat → Int → Bool
  | 0, _ => true
  | i + 1, x => eqB f g i x && !((f i x).xor (g i x))
theorem X1_equal_5 {ta tb w : Nat} {f g : Nat → Int → Bool} (ha : ta < b) (hb : tb < b) (hw : (bitsS (tS (ts ta))).toNat = w) (w8 : w ≤ 8) : ∀ (d i z : Nat) (gs : Nat → Gt) (h : mx_H) (r : Nat), i + d = w → z + 2 * d ≤ 1065 → GtC z gs h.1 → GW z gs → Cx n b ts h → (∀ k, k < w → CL z gs Q h 29 (8 * ta + k) (f k) ∧ CL z gs Q h 29 (8 * tb + k) (g k)) → Lm z gs Q r (eqB f g i) → Gl (2 * d) (fun _ _ => False) z gs h Q (eqB f g w) (fun _ _ _ => True) (mx_D (4, mm_X1_equal, 5, [.ref 28, .int (iI ((ta : Int))), .int (iI ((tb : Int))), .int (iI ((r : Int))), .int (iI ((i : Int)))], []) h) := by
  intro d
  induction d with
  | zero =>
    intro i z gs h r hi hz G W C B R
    have c2 := C.2.1
    rw [e_X1_equal_5, X1_widthOf_c C (by omega), hw]
    refine ⟨r, z, gs, h, Eq.trans (e_X1_equal_12 ..) ?_, GY_r G W, ?_, trivial⟩
    · rw [if_pos ((ii_le (by omega)).mpr (by omega))]
    · rw [show w = i by omega]; exact R
  | succ d ih =>
    intro i z gs h r hi hz G W C B R
    have c2 := C.2.1
    rw [e_X1_equal_5, X1_widthOf_c C (by omega), hw]
    obtain ⟨la, p1, p2⟩ := bit_l C ha (by omega) (B i (by omega)).1
    obtain ⟨lb, q1, q2⟩ := bit_l C hb (by omega) (B i (by omega)).2
    obtain ⟨r1, z1, gs1, h1, x1, x2, x3⟩ := xor_m G W (by omega) p2 q2
    have Y1 : GY 1 (fun _ _ => False) z gs h z1 gs1 h1 := GY_g x2
    have z1b := x2.2.2.2.1
    obtain ⟨r2, z2, gs2, h2, y1, y2, y3⟩ := and_m x2.1 x2.2.1 (by omega) (Lm_y W Y1 R) (Lm_ng x3)
    have Y2 : GY 1 (fun _ _ => False) z1 gs1 h1 z2 gs2 h2 := GY_g y2
    have Y := GY_t (m'' := 2) (T'' := fun _ _ => False) Y1 Y2 (by omega) (fun _ _ q => q) (fun _ _ q => q)
    have z2b := Y.2.2.2.1
    obtain ⟨rr, z3, gs3, h3, k1, k2, k3, k4⟩ := ih (i + 1) z2 gs2 h2 r2 (by omega) (by omega) Y.1 Y.2.1 (Cx_y Y (fun _ _ q => q.elim) C) (fun k hk => ⟨CL_y W Y (by omega) (fun q => q) (B k hk).1, CL_y W Y (by omega) (fun q => q) (B k hk).2⟩) y3
    refine ⟨rr, z3, gs3, h3, ?_, GY_t Y k2 (by omega) (fun _ _ q => q) (fun _ _ q => q), k3, trivial⟩
    refine Eq.trans (e_X1_equal_12 ..) ?_
    rw [if_neg (fun q => by have := (ii_le (by omega)).mp q; omega), p1]
    refine Eq.trans (e_X1_equal_31 ..) ?_
    rw [q1]
    refine Eq.trans (e_X1_equal_38 ..) ?_
    rw [x1]
    refine Eq.trans (e_X1_equal_41 ..) ?_
    rw [ii_ng (Lm_lt x2.1 x3), y1]
    refine Eq.trans (e_X1_equal_46 ..) ?_
    rw [ii_s]
    exact k1
theorem X1_equal_c {ta tb w : Nat} {f g : Nat → Int → Bool} (ha : ta < b) (hb : tb < b) (hw : (bitsS (tS (ts ta))).toNat = w) (w8 : w ≤ 8) (hz : z + 2 * w ≤ 1065) (G : GtC z gs h.1) (W : GW z gs) (C : Cx n b ts h) (B : ∀ k, k < w → CL z gs Q h 29 (8 * ta + k) (f k) ∧ CL z gs Q h 29 (8 * tb + k) (g k)) : Gl (2 * w) (fun _ _ => False) z gs h Q (eqB f g w) (fun _ _ _ => True) (mx_C mm_X1_equal [.ref 28, .int (iI ((ta : Int))), .int (iI ((tb : Int)))] h) := by
  rw [c_X1_equal, e_X1_equal_0]
  exact X1_equal_5 ha hb hw w8 w 0 z gs h 0 (by omega) hz G W C B (Lm_0 G.2.1)
/-- the cells of the term that is being built -/
def T9 (b : Nat) : Nat → Nat → Prop := fun a k => a = 29 ∧ 8 * b ≤ k
theorem T9_29 {b : Nat} : ∀ a k, T9 b a k → 29 ≤ a := fun a k q => by have := q.1; omega
theorem X1_choose_3 {c ta tb w : Nat} {k : Int → Bool} {f g : Nat → Int → Bool} (ha : ta < b) (hb : tb < b) (hw : (bitsS (tS (ts ta))).toNat = w) (w8 : w ≤ 8) : ∀ (d i z : Nat) (gs : Nat → Gt) (h : mx_H), i + d = w → z + d ≤ 1065 → GtC z gs h.1 → GW z gs → Cx n b ts h → Lm z gs Q c k → (∀ k, k < w → CL z gs Q h 29 (8 * ta + k) (f k) ∧ CL z gs Q h 29 (8 * tb + k) (g k)) → (∀ j, j < i → CL z gs Q h 29 (8 * b + j) (fun x => if k x = true then f j x else g j x)) → Gv d (T9 b) z gs h (fun z' gs' h' => ∀ j, j < w → CL z' gs' Q h' 29 (8 * b + j) (fun x => if k x = true then f j x else g j x)) (mx_D (4, mm_X1_choose, 3, [.ref 28, .int (iI ((c : Int))), .int (iI ((ta : Int))), .int (iI ((tb : Int))), .int (iI ((i : Int)))], []) h) := by
  intro d
  induction d with
  | zero =>
    intro i z gs h hi hz G W C K B R
    have c2 := C.2.1
    rw [e_X1_choose_3, X1_widthOf_c C (by omega), hw]
    refine ⟨z, gs, h, Eq.trans (e_X1_choose_10 ..) ?_, GY_r G W, fun j hj => R j (by omega)⟩
    rw [if_pos ((ii_le (by omega)).mpr (by omega))]
  | succ d ih =>
    intro i z gs h hi hz G W C K B R
    have c2 := C.2.1
    rw [e_X1_choose_3, X1_widthOf_c C (by omega), hw]
    obtain ⟨la, p1, p2⟩ := bit_l C ha (by omega) (B i (by omega)).1
    obtain ⟨lb, q1, q2⟩ := bit_l C hb (by omega) (B i (by omega)).2
    obtain ⟨r1, z1, gs1, h1, x1, x2, x3⟩ := mux_m G W (by omega) K p2 q2
    have Y1 : GY 1 (T9 b) z gs h z1 gs1 h1 := GY_g x2
    have Y2 : GY 0 (T9 b) z1 gs1 h1 z1 gs1 (mx_u h1.1 29 (8 * b + i) (iI (r1 : Int)), h1.2.1, h1.2.2) := GY_u x2.1 x2.2.1 (by decide) ⟨rfl, by omega⟩
    have Y := GY_t (m'' := 1) (T'' := T9 b) Y1 Y2 (by omega) (fun _ _ q => q) (fun _ _ q => q)
    have z2b := Y.2.2.2.1
    have nt : ∀ t k, t < b → k < w → ¬ T9 b 29 (8 * t + k) := fun t k p q e => by have := e.2; omega
    obtain ⟨z3, gs3, h3, k1, k2, k3⟩ := ih (i + 1) z1 gs1 (mx_u h1.1 29 (8 * b + i) (iI (r1 : Int)), h1.2.1, h1.2.2) (by omega) (by omega) Y.1 Y.2.1 (Cx_y Y T9_29 C) (Lm_y W Y K) (fun k hk => ⟨CL_y W Y (by omega) (nt _ _ ha hk) (B k hk).1, CL_y W Y (by omega) (nt _ _ hb hk) (B k hk).2⟩) (fun j hj => by
      by_cases e : j = i
      · rw [e]; exact CL_n x3
      · obtain ⟨l, u1, u2⟩ := CL_y W (GY_g (T := fun _ _ => False) x2) (by omega) (fun q => q) (R j (by omega))
        exact ⟨l, by dsimp only; rw [mu_k _ _ (by omega)]; exact u1, u2⟩)
    refine ⟨z3, gs3, h3, ?_, GY_t Y k2 (by omega) (fun _ _ q => q) (fun _ _ q => q), k3⟩
    refine Eq.trans (e_X1_choose_10 ..) ?_
    rw [if_neg (fun q => by have := (ii_le (by omega)).mp q; omega), p1]
    refine Eq.trans (e_X1_choose_28 ..) ?_
    rw [q1]
    refine Eq.trans (e_X1_choose_35 ..) ?_
    rw [x1]
    refine Eq.trans (e_X1_choose_38 ..) ?_
    rw [X1_set_c (Cx_y Y1 T9_29 C) (by omega)]
    refine Eq.trans (e_X1_choose_41 ..) ?_
    rw [ii_s]
    exact k1
theorem X1_choose_c {c ta tb w : Nat} {k : Int → Bool} {f g : Nat → Int → Bool} (ha : ta < b) (hb : tb < b) (hw : (bitsS (tS (ts ta))).toNat = w) (w8 : w ≤ 8) (hz : z + w ≤ 1065) (G : GtC z gs h.1) (W : GW z gs) (C : Cx n b ts h) (K : Lm z gs Q c k) (B : ∀ k, k < w → CL z gs Q h 29 (8 * ta + k) (f k) ∧ CL z gs Q h 29 (8 * tb + k) (g k)) : Gv w (T9 b) z gs h (fun z' gs' h' => ∀ j, j < w → CL z' gs' Q h' 29 (8 * b + j) (fun x => if k x = true then f j x else g j x)) (mx_C mm_X1_choose [.ref 28, .int (iI ((c : Int))), .int (iI ((ta : Int))), .int (iI ((tb : Int)))] h) := by
  rw [c_X1_choose, e_X1_choose_0]
  exact X1_choose_3 ha hb hw w8 w 0 z gs h (by omega) hz G W C K B (fun j hj => by omega)
end CY
