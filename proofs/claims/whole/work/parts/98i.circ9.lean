/-! the class's circuits: calculate -/
def caB (k w : Nat) (f g : Nat → Int → Bool) (i : Nat) (x : Int) : Bool :=
  if k = 13 then smB (fun _ _ => false) (nB f) true i x else if k = 17 then smB f g false i x else if k = 18 then smB f (nB g) true i x
  else if k = 19 then mlB f g w i x else if k = 20 then dvG f g w (w - 1 - i) x else if k = 21 then dvL f g w w i x
  else if 22 ≤ k ∧ k ≤ 24 then shB (decide (k = 22)) w f g (fun x => if k = 24 then f (w - 1) x else false) w i x else mxB k f g i x
section CQ
variable {z : Nat} {gs : Nat → Gt} {h : mx_H} {Q : (Nat → Prop) → Prop} {n b : Nat} {ts : Nat → Tm}
theorem AR_f {a w : Nat} {F F' : Nat → Int → Bool} (e : ∀ i x, F i x = F' i x) (R : AR z gs Q h a w F) : AR z gs Q h a w F' := fun i hi => CL_f (e i) (R i hi)
theorem X1_calculate_c {k ta tb w : Nat} {f g : Nat → Int → Bool} (hk : 12 ≤ k ∧ k ≤ 24) (ha : ta < b) (hw : (bitsS (tS (ts ta))).toNat = w) (w1 : 1 ≤ w) (w4 : w ≤ 4) (hz : z + (if 19 ≤ k ∧ k ≤ 21 then 64 else 16) ≤ 1065) (G : GtC z gs h.1) (W : GW z gs) (C : Cx n b ts h) (A : Opd z gs Q h b (iI (ta : Int)) w f) (B : k ≠ 12 → k ≠ 13 → Opd z gs Q h b (iI (tb : Int)) w g) : Gv (if 19 ≤ k ∧ k ≤ 21 then 64 else 16) (TD b) z gs h (fun z' gs' h' => ∀ j, j < w → CL z' gs' Q h' 29 (8 * b + j) (caB k w f g j)) (mx_C mm_X1_calculate [.ref 28, mx_rf (some (1007 + k)), .int (iI ((ta : Int))), .int (iI ((tb : Int)))] h) := by
  have c2 := C.2.1
  have w2 : w * (4 * w) ≤ 64 ∧ w * w ≤ 16 := by
    have : w = 1 ∨ w = 2 ∨ w = 3 ∨ w = 4 := by omega
    rcases this with e | e | e | e <;> rw [e] <;> decide
  have e0 : mx_C mm_X1_calculate [.ref 28, mx_rf (some (1007 + k)), .int (iI ((ta : Int))), .int (iI ((tb : Int)))] h = mx_D (13, mm_X1_calculate, 19, [.ref 28, mx_rf (some (1007 + k)), .int (iI ((ta : Int))), .int (iI ((tb : Int))), .int (iI ((w : Int))), mx_junk], [.int (mx_swm ((Int32.ofNat (1007 + k - 1000)).toNatClampNeg))]) h := by
    rw [c_X1_calculate, e_X1_calculate_0, X1_widthOf_c C (by omega), hw]
    refine Eq.trans (e_X1_calculate_5 (1007 + k) (by omega) ..) ?_
    rw [if_pos (by
      have kk : k = 12 ∨ k = 13 ∨ k = 14 ∨ k = 15 ∨ k = 16 ∨ k = 17 ∨ k = 18 ∨ k = 19 ∨ k = 20 ∨ k = 21 ∨ k = 22 ∨ k = 23 ∨ k = 24 := by omega
      rcases kk with rfl | rfl | rfl | rfl | rfl | rfl | rfl | rfl | rfl | rfl | rfl | rfl | rfl <;> decide), if_neg (show ¬ (4 : Int32) < iI (w : Int) from fun q => by have := (ii_lt (a := 4) (by omega)).mp q; omega)]
    rfl
  have fin : ∀ (m z1 : Nat) (gs1 : Nat → Gt) (h1 : mx_H) (F : Nat → Int → Bool), m ≤ (if 19 ≤ k ∧ k ≤ 21 then 64 else 16) → GY m TR z gs h z1 gs1 h1 → AR z1 gs1 Q h1 32 w F → (∀ i x, F i x = caB k w f g i x) → ∀ X, X = mx_D (13, mm_X1_calculate, 188, [.ref 28, mx_rf (some (1007 + k)), .int (iI ((ta : Int))), .int (iI ((tb : Int))), .int (iI ((w : Int))), mx_junk], []) h1 → Gv (if 19 ≤ k ∧ k ≤ 21 then 64 else 16) (TD b) z gs h (fun z' gs' h' => ∀ j, j < w → CL z' gs' Q h' 29 (8 * b + j) (caB k w f g j)) X := by
    intro m z1 gs1 h1 F hm Y R hF X hX
    obtain ⟨z2, gs2, h2, k1, k2, k3⟩ := X1_calculate_191 (o := some (1007 + k)) (ta := ta) (tb := tb) w4 w 0 h1 (by omega) Y.1 Y.2.1 (Cx_y Y TR_29 C) (AR_f hF R) (fun j hj => by omega)
    refine ⟨z2, gs2, h2, ?_, GY_t Y k2 (by omega) (fun _ _ q => Or.inl q) (fun _ _ q => Or.inr q), k3⟩
    rw [hX, e_X1_calculate_188]
    exact k1
  have add : ∀ (va vb : Int32) (tu c : Bool) (F H : Nat → Int → Bool), Opd z gs Q h b va w F → Opd z gs Q h b vb w H → 3 * w ≤ (if 19 ≤ k ∧ k ≤ 21 then 64 else 16) → ∃ (z1 : Nat) (gs1 : Nat → Gt) (h1 h2 h3 : mx_H) (r : Nat), mx_C mm_X1_loadLeft [.ref 28, .int va, .int (iI ((w : Int)))] h = some (none, h1) ∧ mx_C mm_X1_loadRight [.ref 28, .int vb, .int (iI ((w : Int))), .int (bI tu)] h1 = some (none, h2) ∧ mx_C mm_X1_add [.ref 28, .int (iI ((w : Int))), .int (bI (!c))] h2 = some (some (.int (iI ((r : Int)))), h3) ∧ GY (3 * w) TR z gs h z1 gs1 h3 ∧ AR z1 gs1 Q h3 32 w (smB F (fun i x => (H i x).xor tu) c) := by
    intro va vb tu c F H O1 O2 hm
    obtain ⟨z1, gs1, h1, e1, e2, e3⟩ := X1_loadLeft_c w4 G W C O1
    have zb := e2.2.2.2.1
    obtain ⟨z2, gs2, h2, f1, f2, f3⟩ := X1_loadRight_c (tu := tu) w4 e2.1 e2.2.1 (Cx_y e2 (TA_29 (by decide)) C) (opd_y W e2 (fun t k _ _ => n29 (by decide) t k) O2)
    have zb2 := f2.2.2.2.1
    obtain ⟨r, z3, gs3, h3, s1, s2, s3, s4⟩ := X1_add_c (c := c) w4 (by omega) f2.1 f2.2.1 (AR_y e2.2.1 f2 (by decide) (fun k (q : 30 = 31) => by omega) e3) f3
    exact ⟨z3, gs3, h1, h2, h3, r, e1, f1, s1, GY_t (GY_t (m'' := 0) e2 f2 (by omega) (TA_R (by decide)) (TA_R (by decide))) s2 (by omega) (fun _ _ q => q) (TA_R (by decide)), s4⟩
  rw [e0]
  have kk : k = 12 ∨ k = 13 ∨ k = 14 ∨ k = 15 ∨ k = 16 ∨ k = 17 ∨ k = 18 ∨ k = 19 ∨ k = 20 ∨ k = 21 ∨ k = 22 ∨ k = 23 ∨ k = 24 := by omega
  have mix : (k = 14 ∨ k = 15 ∨ k = 16 ∨ k = 12) → (∀ v, v = mx_swm ((Int32.ofNat (1007 + k - 1000)).toNatClampNeg) → v.toInt < 8 ∨ 16 < v.toInt) → Gv (if 19 ≤ k ∧ k ≤ 21 then 64 else 16) (TD b) z gs h (fun z' gs' h' => ∀ j, j < w → CL z' gs' Q h' 29 (8 * b + j) (caB k w f g j)) (mx_D (13, mm_X1_calculate, 19, [.ref 28, mx_rf (some (1007 + k)), .int (iI ((ta : Int))), .int (iI ((tb : Int))), .int (iI ((w : Int))), mx_junk], [.int (mx_swm ((Int32.ofNat (1007 + k - 1000)).toNatClampNeg))]) h) := by
    intro hk' hv
    have ml : 16 ≤ (if 19 ≤ k ∧ k ≤ 21 then 64 else 16) := by split <;> decide
    obtain ⟨z1, gs1, h1, e1, e2, e3⟩ := X1_mix_c hk' w4 (show z + w ≤ 1065 by omega) G W C A (fun q => B q (by omega))
    refine fin w z1 gs1 h1 _ (by omega) (GY_w e2 (by omega) (TA_R (by decide))) e3 (fun i x => ?_) _ ?_
    · unfold caB
      rw [if_neg (by omega), if_neg (by omega), if_neg (by omega), if_neg (by omega), if_neg (by omega), if_neg (by omega), if_neg (by omega)]
    · refine Eq.trans (e_X1_calculate_19_d (hx := hv _ rfl) ..) (Eq.trans (e_X1_calculate_179 ..) ?_)
      rw [e1]
      rfl
  rcases kk with rfl | rfl | rfl | rfl | rfl | rfl | rfl | rfl | rfl | rfl | rfl | rfl | rfl
  · exact mix (by decide) (fun v hv => by rw [hv]; decide)
  · obtain ⟨z1, gs1, h1, h2, h3, r, e1, e2, e3, e4, e5⟩ := add (-1) (iI (ta : Int)) true true _ _ (Or.inl ⟨rfl, rfl⟩) A (by rw [if_neg (by decide)]; omega)
    refine fin (3 * w) z1 gs1 h3 _ (by rw [if_neg (by decide)]; omega) e4 e5 (fun i x => rfl) _ ?_
    refine Eq.trans (e_X1_calculate_19_8 ..) (Eq.trans (e_X1_calculate_68 ..) ?_)
    rw [e1]
    refine Eq.trans (e_X1_calculate_75 ..) ?_
    rw [show (1 : Int32) = bI true from rfl, e2]
    refine Eq.trans (e_X1_calculate_83 ..) ?_
    rw [show (0 : Int32) = bI (!true) from rfl, e3]
    exact e_X1_calculate_90 ..
  · exact mix (by decide) (fun v hv => by rw [hv]; decide)
  · exact mix (by decide) (fun v hv => by rw [hv]; decide)
  · exact mix (by decide) (fun v hv => by rw [hv]; decide)
  · obtain ⟨z1, gs1, h1, h2, h3, r, e1, e2, e3, e4, e5⟩ := add (iI (ta : Int)) (iI (tb : Int)) false false _ _ A (B (by decide) (by decide)) (by rw [if_neg (by decide)]; omega)
    have bx : (fun (i : Nat) (x : Int) => (g i x).xor false) = g := by funext i x; simp
    rw [bx] at e5
    refine fin (3 * w) z1 gs1 h3 _ (by rw [if_neg (by decide)]; omega) e4 e5 (fun i x => rfl) _ ?_
    refine Eq.trans (e_X1_calculate_19_9 ..) (Eq.trans (e_X1_calculate_94 ..) ?_)
    rw [e1]
    refine Eq.trans (e_X1_calculate_101 ..) ?_
    rw [show (0 : Int32) = bI false from rfl, e2]
    refine Eq.trans (e_X1_calculate_109 ..) ?_
    rw [show (1 : Int32) = bI (!false) from rfl, e3]
    exact e_X1_calculate_116 ..
  · obtain ⟨z1, gs1, h1, h2, h3, r, e1, e2, e3, e4, e5⟩ := add (iI (ta : Int)) (iI (tb : Int)) true true _ _ A (B (by decide) (by decide)) (by rw [if_neg (by decide)]; omega)
    refine fin (3 * w) z1 gs1 h3 _ (by rw [if_neg (by decide)]; omega) e4 e5 (fun i x => rfl) _ ?_
    refine Eq.trans (e_X1_calculate_19_10 ..) (Eq.trans (e_X1_calculate_120 ..) ?_)
    rw [e1]
    refine Eq.trans (e_X1_calculate_127 ..) ?_
    rw [show (1 : Int32) = bI true from rfl, e2]
    refine Eq.trans (e_X1_calculate_135 ..) ?_
    rw [show (0 : Int32) = bI (!true) from rfl, e3]
    exact e_X1_calculate_142 ..
  · obtain ⟨z1, gs1, h1, e1, e2, e3⟩ := X1_multiply_c w4 (show z + w * (4 * w) ≤ 1065 by rw [if_pos (by decide)] at hz; omega) G W C A (B (by decide) (by decide))
    refine fin (w * (4 * w)) z1 gs1 h1 _ (by rw [if_pos (by decide)]; omega) e2 (e3 w1) (fun i x => rfl) _ ?_
    refine Eq.trans (e_X1_calculate_19_11 ..) (Eq.trans (e_X1_calculate_146 ..) ?_)
    rw [e1]
    exact e_X1_calculate_154 ..
  · obtain ⟨z1, gs1, h1, e1, e2, e3⟩ := X1_divide_c (wd := 1027) (by decide) w1 w4 (show z + w * (4 * w) ≤ 1065 by rw [if_pos (by decide)] at hz; omega) G W C A (B (by decide) (by decide))
    refine ⟨z1, gs1, h1, ?_, GY_w e2 (by rw [if_pos (by decide)]; omega) (fun _ _ q => q), fun j hj => e3 j hj⟩
    refine Eq.trans (e_X1_calculate_19_12 ..) (Eq.trans (e_X1_calculate_157 ..) ?_)
    rw [e1]
    exact e_X1_calculate_166 ..
  · obtain ⟨z1, gs1, h1, e1, e2, e3⟩ := X1_divide_c (wd := 1028) (by decide) w1 w4 (show z + w * (4 * w) ≤ 1065 by rw [if_pos (by decide)] at hz; omega) G W C A (B (by decide) (by decide))
    refine ⟨z1, gs1, h1, ?_, GY_w e2 (by rw [if_pos (by decide)]; omega) (fun _ _ q => q), fun j hj => e3 j hj⟩
    refine Eq.trans (e_X1_calculate_19_13 ..) (Eq.trans (e_X1_calculate_157 ..) ?_)
    rw [e1]
    exact e_X1_calculate_166 ..
  · obtain ⟨z1, gs1, h1, e1, e2, e3⟩ := X1_shift_c (wd := 1029) (by decide) w1 w4 (show z + w * w ≤ 1065 by rw [if_neg (by decide)] at hz; omega) G W C A (B (by decide) (by decide))
    refine fin (w * w) z1 gs1 h1 _ (by rw [if_neg (by decide)]; omega) e2 e3 (fun i x => rfl) _ ?_
    refine Eq.trans (e_X1_calculate_19_14 ..) (Eq.trans (e_X1_calculate_167 ..) ?_)
    rw [e1]
    exact e_X1_calculate_176 ..
  · obtain ⟨z1, gs1, h1, e1, e2, e3⟩ := X1_shift_c (wd := 1030) (by decide) w1 w4 (show z + w * w ≤ 1065 by rw [if_neg (by decide)] at hz; omega) G W C A (B (by decide) (by decide))
    refine fin (w * w) z1 gs1 h1 _ (by rw [if_neg (by decide)]; omega) e2 e3 (fun i x => rfl) _ ?_
    refine Eq.trans (e_X1_calculate_19_15 ..) (Eq.trans (e_X1_calculate_167 ..) ?_)
    rw [e1]
    exact e_X1_calculate_176 ..
  · obtain ⟨z1, gs1, h1, e1, e2, e3⟩ := X1_shift_c (wd := 1031) (by decide) w1 w4 (show z + w * w ≤ 1065 by rw [if_neg (by decide)] at hz; omega) G W C A (B (by decide) (by decide))
    refine fin (w * w) z1 gs1 h1 _ (by rw [if_neg (by decide)]; omega) e2 e3 (fun i x => rfl) _ ?_
    refine Eq.trans (e_X1_calculate_19_16 ..) (Eq.trans (e_X1_calculate_167 ..) ?_)
    rw [e1]
    exact e_X1_calculate_176 ..
end CQ
