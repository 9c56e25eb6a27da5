/-! the class's gates -/
def GaF (h h' : mx_H) : Prop := (∀ a k, ¬ (23 ≤ a ∧ a ≤ 26) → (a ≠ 22 ∨ k ≠ 5) → h'.1 a k = h.1 a k) ∧ h'.2 = h.2
theorem GaF_r {h : mx_H} : GaF h h := ⟨fun _ _ _ _ => rfl, rfl⟩
theorem GaF_t {h h1 h2 : mx_H} (a : GaF h h1) (b : GaF h1 h2) : GaF h h2 := ⟨fun x k z1 z2 => by rw [b.1 x k z1 z2, a.1 x k z1 z2], by rw [b.2, a.2]⟩
/-- more gates than before, at most m more -/
def GX (m z : Nat) (gs : Nat → Gt) (h : mx_H) (z' : Nat) (gs' : Nat → Gt) (h' : mx_H) : Prop := GtC z' gs' h'.1 ∧ GW z' gs' ∧ z ≤ z' ∧ z' ≤ z + m ∧ (∀ g, g < z → gs' g = gs g) ∧ GaF h h'
theorem GX_r {z : Nat} {gs : Nat → Gt} {h : mx_H} {m : Nat} (G : GtC z gs h.1) (W : GW z gs) : GX m z gs h z gs h := ⟨G, W, Nat.le_refl _, by omega, fun _ _ => rfl, GaF_r⟩
theorem GX_t {m m' m'' z z1 z2 : Nat} {gs gs1 gs2 : Nat → Gt} {h h1 h2 : mx_H} (a : GX m z gs h z1 gs1 h1) (b : GX m' z1 gs1 h1 z2 gs2 h2) (hm : m + m' ≤ m'') : GX m'' z gs h z2 gs2 h2 := by
  obtain ⟨a1, a2, a3, a4, a5, a6⟩ := a
  obtain ⟨b1, b2, b3, b4, b5, b6⟩ := b
  exact ⟨b1, b2, by omega, by omega, fun g hg => by rw [b5 g (by omega), a5 g hg], GaF_t a6 b6⟩
/-- the answer of an operation on gates: a literal of value f, built of what P is built of -/
def Gop (m z : Nat) (gs : Nat → Gt) (h : mx_H) (P : Nat → Prop) (f : Int → Bool) (X : Option mx_O) : Prop := ∃ r z' gs' h', X = some (some (.int (iI (((r : Nat) : Int)))), h') ∧ GX m z gs h z' gs' h' ∧ r / 2 < z' ∧ (∀ x, lv gs' x r = f x) ∧ ∀ I, (∀ u, P u → gal z gs I u) → gal z' gs' I (r / 2)
section GG
variable {z : Nat} {gs : Nat → Gt} {h : mx_H}
theorem Gop_c {m r : Nat} {P : Nat → Prop} {f : Int → Bool} {X : Option mx_O} (G : GtC z gs h.1) (W : GW z gs) (hX : X = some (some (.int (iI (((r : Nat) : Int)))), h)) (hr : r / 2 < z) (hf : ∀ x, lv gs x r = f x) (hP : ∀ I, (∀ u, P u → gal z gs I u) → gal z gs I (r / 2)) : Gop m z gs h P f X := ⟨r, z, gs, h, hX, GX_r G W, hr, hf, hP⟩
theorem X3_put_c {k c a b : Nat} (G : GtC z gs h.1) (W : GW z gs) (hz : z < 1065) (hk : k ≤ 2) (ha : 1 ≤ a / 2 ∧ a / 2 < z) (hb : 1 ≤ b / 2 ∧ b / 2 < z) (h1 : k ≤ 1 → c = 0 ∧ a / 2 ≠ b / 2) (h2 : k = 2 → (1 ≤ c / 2 ∧ c / 2 < z) ∧ a / 2 ≠ c / 2 ∧ b / 2 ≠ c / 2) : Gop 1 z gs h (fun u => u = a / 2 ∨ u = b / 2 ∨ u = c / 2) (fun x => gev (k, c, a, b) (lv gs x)) (mx_C mm_X3_put [.ref 22, .int (iI ((k : Int))), .int (iI ((c : Int))), .int (iI ((a : Int))), .int (iI ((b : Int)))] h) := by
  obtain ⟨G1, G2, G3, G4⟩ := id G
  have cz : c / 2 < z := by
    by_cases q : k ≤ 1
    · rw [(h1 q).1]; omega
    · exact (h2 (by omega)).1.2
  obtain ⟨gs', hgs⟩ : ∃ gs' : Nat → Gt, gs' = fun g => if g = z then (k, c, a, b) else gs g := ⟨_, rfl⟩
  have old : ∀ g, g < z → gs' g = gs g := fun g hg => by rw [hgs]; exact if_neg (by omega)
  have new : gs' z = (k, c, a, b) := by rw [hgs]; exact if_pos rfl
  have W' : GW (z + 1) gs' := by
    intro g h9 hg
    by_cases e : g = z
    · rw [e, new]
      exact ⟨hk, ha, hb, h1, h2⟩
    · rw [old g (by omega)]
      exact W g h9 (by omega)
  have w : ∀ x i, ¬ (23 ≤ x ∧ x ≤ 26 ∧ i = z) → (x ≠ 22 ∨ i ≠ 5) → mx_u (mx_u (mx_u (mx_u (mx_u h.1 23 z (iI (k : Int))) 26 z (iI (c : Int))) 24 z (iI (a : Int))) 25 z (iI (b : Int))) 22 5 (iI ((z : Int) + 1)) x i = h.1 x i := by
    intro x i p q
    dsimp only [mx_u]
    rw [if_neg (by omega), if_neg (by omega), if_neg (by omega), if_neg (by omega), if_neg (by omega)]
  refine ⟨2 * z, z + 1, gs', (mx_u (mx_u (mx_u (mx_u (mx_u h.1 23 z (iI (k : Int))) 26 z (iI (c : Int))) 24 z (iI (a : Int))) 25 z (iI (b : Int))) 22 5 (iI ((z : Int) + 1)), h.2.1, h.2.2), ?_, ⟨⟨?_, by omega, by omega, fun g h9 hg => ?_⟩, W', by omega, by omega, old, ⟨fun x i p q => w x i (by omega) q, rfl⟩⟩, by omega, fun x => ?_, fun I hI => ?_⟩
  · rw [c_X3_put, e_X3_put_0]
    simp (disch := omega) only [↓reduceIte, ii_lit, ii_add, ii_sub, ii_mul, ii_neg, ii_lt_t, ii_lt_f, ii_le_t, ii_le_f, ii_eq_t, ii_eq_f, ii_in, ii_cl, ii_shr, ii_shl, ii_and1, ii_and255, Option.bind_some, Option.toList, List.cons_append, List.nil_append, Int.toNat_natCast, mu_s, mu_c, mu_k, bI_i0, bI_i1, bI_n, nb_0, nb_1, bI_ft, bI_ff, Bool.false_eq_true, reduceCtorEq, Bool.true_eq_false, decide_true, decide_false, eq_self, Int.reduceAdd, Int.reduceSub, Int.reduceMul, Int.reduceNeg, Int.reduceToNat, tn30, tn31, tn32, tn20, tn21, G1]
    rw [show (2 * ((z : Int) + 1 - 1)) = ((2 * z : Nat) : Int) by omega]
  · dsimp only; rw [mu_s]; rfl
  · dsimp only
    by_cases e : g = z
    · rw [e, new]
      simp (disch := omega) only [↓reduceIte, ii_lit, ii_add, ii_sub, ii_mul, ii_neg, ii_lt_t, ii_lt_f, ii_le_t, ii_le_f, ii_eq_t, ii_eq_f, ii_in, ii_cl, ii_shr, ii_shl, ii_and1, ii_and255, Option.bind_some, Option.toList, List.cons_append, List.nil_append, Int.toNat_natCast, mu_s, mu_c, mu_k, bI_i0, bI_i1, bI_n, nb_0, nb_1, bI_ft, bI_ff, Bool.false_eq_true, reduceCtorEq, Bool.true_eq_false, decide_true, decide_false, eq_self, Int.reduceAdd, Int.reduceSub, Int.reduceMul, Int.reduceNeg, Int.reduceToNat, tn30, tn31, tn32, tn20, tn21]
      exact ⟨rfl, rfl, rfl, rfl⟩
    · rw [w 23 g (by omega) (by omega), w 26 g (by omega) (by omega), w 24 g (by omega) (by omega), w 25 g (by omega) (by omega), old g (by omega)]
      exact G4 g h9 (by omega)
  · have e1 : lv gs' x (2 * z) = gvl gs' x z := by
      unfold lv lvF
      rw [show 2 * z / 2 = z by omega, show 2 * z % 2 = 0 by omega]
      simp
    rw [e1, gvl_g W' (by omega), new]
    have ex : ∀ l, l / 2 < z → lv gs' x l = lv gs x l := fun l hl => lv_x W W' (by omega) old hl
    exact gev_e (ex a ha.2) (ex b hb.2) (ex c cz)
  · rw [show 2 * z / 2 = z by omega]
    have gx : ∀ u, gal z gs I u → gal (z + 1) gs' I u := fun u hu => gal_x (by omega) old hu
    refine gal_mk (by omega) ?_ ?_ ?_
    · rw [new]; exact gx _ (hI _ (Or.inr (Or.inr rfl)))
    · rw [new]; exact gx _ (hI _ (Or.inl rfl))
    · rw [new]; exact gx _ (hI _ (Or.inr (Or.inl rfl)))
theorem lit_ne {a b : Nat} (ha : a < 4096) (hb : b < 4096) (h : a ≠ b) : ¬ iI (a : Int) = iI (b : Int) := fun q => h (by have := (ii_eq (by omega) (by omega)).mp q; omega)
theorem X3_and_c {a b : Nat} (G : GtC z gs h.1) (W : GW z gs) (hz : z < 1065) (ha : a / 2 < z) (hb : b / 2 < z) : Gop 1 z gs h (fun u => u = a / 2 ∨ u = b / 2) (fun x => lv gs x a && lv gs x b) (mx_C mm_X3_and [.ref 22, .int (iI ((a : Int))), .int (iI ((b : Int)))] h) := by
  have a4 : a < 4096 := by omega
  have b4 : b < 4096 := by omega
  rw [c_X3_and, e_X3_and_0, ii_ng b4]
  have f17 : ∀ X, X = mx_D (2, mm_X3_and, 17, [.ref 22, .int (iI ((a : Int))), .int (iI ((b : Int)))], []) h → (∀ x, (lv gs x a && lv gs x b) = false) → Gop 1 z gs h (fun u => u = a / 2 ∨ u = b / 2) (fun x => lv gs x a && lv gs x b) X := by
    intro X hX hf
    refine Gop_c (r := 1) G W ?_ (by omega) (fun x => by rw [hf x]; rfl) (fun I _ => gal_0)
    rw [hX, e_X3_and_17]
    rfl
  have f28 : ∀ X, X = mx_D (2, mm_X3_and, 28, [.ref 22, .int (iI ((a : Int))), .int (iI ((b : Int)))], []) h → (∀ x, (lv gs x a && lv gs x b) = lv gs x b) → Gop 1 z gs h (fun u => u = a / 2 ∨ u = b / 2) (fun x => lv gs x a && lv gs x b) X := by
    intro X hX hf
    refine Gop_c (r := b) G W ?_ hb (fun x => (hf x).symm) (fun I hI => hI _ (Or.inr rfl))
    rw [hX, e_X3_and_28]
  by_cases q1 : a = 1
  · rw [if_pos (show iI (a : Int) = 1 by rw [q1]; rfl)]
    exact f17 _ rfl (fun x => by rw [q1, lv_1]; rfl)
  rw [if_neg (show ¬ iI (a : Int) = 1 from lit_ne (b := 1) a4 (by decide) q1)]
  by_cases q2 : b = 1
  · rw [if_pos (show iI (b : Int) = 1 by rw [q2]; rfl)]
    exact f17 _ rfl (fun x => by rw [q2, lv_1]; simp)
  rw [if_neg (show ¬ iI (b : Int) = 1 from lit_ne (b := 1) b4 (by decide) q2)]
  have n4 : ng b < 4096 := by have := ng_2 b; omega
  by_cases q3 : a = ng b
  · rw [if_pos (by rw [q3])]
    exact f17 _ rfl (fun x => by rw [q3, lv_ng]; simp)
  rw [if_neg (lit_ne a4 n4 q3)]
  by_cases q4 : a = 0
  · rw [if_pos (show iI (a : Int) = 0 by rw [q4]; rfl)]
    exact f28 _ rfl (fun x => by rw [q4, lv_0]; rfl)
  rw [if_neg (show ¬ iI (a : Int) = 0 from lit_ne (b := 0) a4 (by decide) q4)]
  by_cases q5 : a = b
  · rw [if_pos (by rw [q5])]
    exact f28 _ rfl (fun x => by rw [q5]; simp)
  rw [if_neg (lit_ne a4 b4 q5)]
  by_cases q6 : b = 0
  · rw [if_pos (show iI (b : Int) = 0 by rw [q6]; rfl), e_X3_and_46]
    exact Gop_c (r := a) G W rfl ha (fun x => by rw [q6, lv_0]; simp) (fun I hI => hI _ (Or.inl rfl))
  rw [if_neg (show ¬ iI (b : Int) = 0 from lit_ne (b := 0) b4 (by decide) q6)]
  have ne : a / 2 ≠ b / 2 := fun e => (lit_eq e).elim q5 q3
  obtain ⟨r, z', gs', h', p1, p2, p3, p4, p5⟩ := X3_put_c (k := 0) (c := 0) (a := a) (b := b) G W hz (by decide) (by omega) (by omega) (fun _ => ⟨rfl, ne⟩) (fun e => by cases e)
  rw [show mx_C mm_X3_put [.ref 22, .int 0, .int 0, .int (iI ((a : Int))), .int (iI ((b : Int)))] h = _ from p1]
  exact ⟨r, z', gs', h', e_X3_and_46 .., p2, p3, p4, fun I hI => p5 I (fun u hu => by
    rcases hu with e | e | e
    · exact hI u (Or.inl e)
    · exact hI u (Or.inr e)
    · rw [e]; exact gal_0)⟩
theorem X3_or_c {a b : Nat} (G : GtC z gs h.1) (W : GW z gs) (hz : z < 1065) (ha : a / 2 < z) (hb : b / 2 < z) : Gop 1 z gs h (fun u => u = a / 2 ∨ u = b / 2) (fun x => lv gs x a || lv gs x b) (mx_C mm_X3_or [.ref 22, .int (iI ((a : Int))), .int (iI ((b : Int)))] h) := by
  rw [c_X3_or, e_X3_or_0, ii_ng (show a < 4096 by omega), ii_ng (show b < 4096 by omega)]
  obtain ⟨r, z', gs', h', p1, p2, p3, p4, p5⟩ := X3_and_c (a := ng a) (b := ng b) G W hz (by rw [ng_2]; exact ha) (by rw [ng_2]; exact hb)
  have p2' := p2.1.2.2.1
  rw [p1]
  refine ⟨ng r, z', gs', h', ?_, p2, by rw [ng_2]; exact p3, fun x => ?_, fun I hI => ?_⟩
  · refine Eq.trans (e_X3_or_10 ..) ?_
    rw [ii_ng (by omega)]
  · rw [lv_ng, p4]
    dsimp only
    rw [lv_ng, lv_ng]
    simp
  · rw [ng_2]
    exact p5 I (fun u hu => hI u (by rw [ng_2, ng_2] at hu; exact hu))
theorem ii_nz {a : Nat} (h : a < 65536) : (iI ((a / 2 : Nat) : Int) = 0) = (a / 2 = 0) := by
  apply propext
  constructor
  · intro q
    have := (ii_eq (b := 0) (by omega) (by decide)).mp q
    omega
  · intro q; rw [q]; rfl
theorem xx1 {a b : Nat} (ha : a < 4096) (hb : b ≤ 1) : (iI (a : Int) ^^^ iI (b : Int)) ^^^ 1 = iI ((if b = 0 then ng a else a : Nat) : Int) := by
  have : b = 0 ∨ b = 1 := by omega
  rcases this with rfl | rfl
  · rw [ii_xorN, Nat.xor_zero, ii_ng ha]; rfl
  · rw [show iI ((1 : Nat) : Int) = (1 : Int32) from rfl, ii_ng ha, ii_ng (by have := ng_2 a; omega), ng_ng]; rfl
theorem X3_xor_c {a b : Nat} (G : GtC z gs h.1) (W : GW z gs) (hz : z < 1065) (ha : a / 2 < z) (hb : b / 2 < z) : Gop 1 z gs h (fun u => u = a / 2 ∨ u = b / 2) (fun x => (lv gs x a).xor (lv gs x b)) (mx_C mm_X3_xor [.ref 22, .int (iI ((a : Int))), .int (iI ((b : Int)))] h) := by
  have a4 : a < 4096 := by omega
  have b4 : b < 4096 := by omega
  rw [c_X3_xor, e_X3_xor_0, ii_h (by omega), ii_h (by omega)]
  by_cases q1 : a / 2 = b / 2
  · rw [if_pos (by rw [q1])]
    by_cases q2 : a = b
    · rw [if_pos (by rw [q2]), e_X3_xor_19]
      exact Gop_c (r := 1) G W rfl (by omega) (fun x => by rw [q2, lv_1]; simp) (fun I _ => gal_0)
    · have q3 := (lit_eq q1).resolve_left q2
      rw [if_neg (lit_ne a4 b4 q2), e_X3_xor_19]
      exact Gop_c (r := 0) G W rfl (by omega) (fun x => by rw [q3, lv_ng, lv_0]; simp) (fun I _ => gal_0)
  rw [if_neg (lit_ne (by omega) (by omega) q1)]
  by_cases q2 : a / 2 = 0
  · rw [if_pos (by rw [ii_nz (by omega)]; exact q2), xx1 b4 (by omega)]
    refine Gop_c (r := if a = 0 then ng b else b) G W rfl (by split <;> (try rw [ng_2]) <;> exact hb) (fun x => ?_) (fun I hI => by split <;> (try rw [ng_2]) <;> exact hI _ (Or.inr rfl))
    by_cases q3 : a = 0
    · rw [if_pos q3, q3, lv_0, lv_ng]; simp
    · rw [if_neg q3, show a = 1 by omega, lv_1]; simp
  rw [if_neg (by rw [ii_nz (by omega)]; exact q2)]
  by_cases q3 : b / 2 = 0
  · rw [if_pos (by rw [ii_nz (by omega)]; exact q3), xx1 a4 (by omega), e_X3_xor_54]
    refine Gop_c (r := if b = 0 then ng a else a) G W rfl (by split <;> (try rw [ng_2]) <;> exact ha) (fun x => ?_) (fun I hI => by split <;> (try rw [ng_2]) <;> exact hI _ (Or.inl rfl))
    by_cases q4 : b = 0
    · rw [if_pos q4, q4, lv_0, lv_ng]; simp
    · rw [if_neg q4, show b = 1 by omega, lv_1]; simp
  rw [if_neg (by rw [ii_nz (by omega)]; exact q3)]
  obtain ⟨r, z', gs', h', p1, p2, p3, p4, p5⟩ := X3_put_c (k := 1) (c := 0) (a := a) (b := b) G W hz (by decide) (by omega) (by omega) (fun _ => ⟨rfl, q1⟩) (fun e => by cases e)
  rw [show mx_C mm_X3_put [.ref 22, .int 1, .int 0, .int (iI ((a : Int))), .int (iI ((b : Int)))] h = _ from p1]
  exact ⟨r, z', gs', h', e_X3_xor_54 .., p2, p3, p4, fun I hI => p5 I (fun u hu => by
    rcases hu with e | e | e
    · exact hI u (Or.inl e)
    · exact hI u (Or.inr e)
    · rw [e]; exact gal_0)⟩
end GG
