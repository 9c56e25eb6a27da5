/-! the class's circuits: place, reach, logic, begin -/
section CW
variable {z : Nat} {gs : Nat → Gt} {h : mx_H} {Q : (Nat → Prop) → Prop} {n b : Nat} {ts : Nat → Tm}
theorem wdE {wd k : Nat} : (mx_rf (some wd) = (.ref k : Value)) ↔ wd = k := ⟨fun e => by injection e, fun e => by rw [e]; rfl⟩
theorem X1_place_c {wd ta tb la lb w : Nat} {fa fb : Nat → Int → Bool} (hwd : 1036 ≤ wd ∧ wd ≤ 1039) (ha : ta < b) (hb : wd = 1036 → tb < b) (hw : (bitsS (tS (ts b))).toNat = w) (w8 : w ≤ 8) (hla : (bitsS (tS (ts ta))).toNat = la) (a1 : 1 ≤ la) (a8 : la ≤ 8) (hlb : wd = 1036 → (bitsS (tS (ts tb))).toNat = lb ∧ lb ≤ 8 ∧ w ≤ lb + la) (G : GtC z gs h.1) (W : GW z gs) (C : Cx n b ts h) (hq : 0 ≤ cn2 (ts b) ∧ cn2 (ts b) ≤ 8) (A : ∀ k, k < la → CL z gs Q h 29 (8 * ta + k) (fa k)) (B : wd = 1036 → ∀ k, k < lb → CL z gs Q h 29 (8 * tb + k) (fb k)) : Gv 0 (T9 b) z gs h (fun z' gs' h' => ∀ j, j < w → CL z' gs' Q h' 29 (8 * b + j) (if wd = 1036 then plB true 0 lb fb fa (fun _ => false) j else plB false (if wd = 1037 then (cn2 (ts b)).toNat else 0) la fa fa (fun x => if wd = 1039 then fa (la - 1) x else false) j)) (mx_C mm_X1_place [.ref 28, mx_rf (some wd), .int (iI ((ta : Int))), .int (iI ((tb : Int)))] h) := by
  have c2 := C.2.1
  have wr : mx_wr (mx_rf (some wd)) = true := decide_eq_true (p := 1000 ≤ wd ∧ wd < 1042) (by omega)
  rw [c_X1_place, e_X1_place_0 (hq0 := wr)]
  by_cases q : wd = 1036
  · have b' := hb q
    obtain ⟨l1, l2, l3⟩ := hlb q
    rw [if_pos (c := mx_rf (some wd) = .ref 1036) (wdE.mpr q), e_X1_place_12 (hq0 := wr), if_neg (c := mx_rf (some wd) = .ref 1037) (fun e => by have := wdE.mp e; omega), e_X1_place_37, X1_widthOf_c C (by omega), l1]
    refine Eq.subst (motive := fun X => Gv 0 (T9 b) z gs h _ X) (e_X1_place_45 (hq0 := wr) ..).symm ?_
    dsimp only
    rw [if_neg (c := mx_rf (some wd) = .ref 1039) (fun e => by have := wdE.mp e; omega), e_X1_place_67]
    simp only [if_pos q]
    exact X1_place_72 (av := 1) (sk := 0) hwd (by rw [q]; simp) ha b' hw w8 l2 a8 (by omega) (fun _ => ⟨l3, rfl⟩) w 0 h (by omega) G W C (Lm_1 G.2.1) (B q) A (fun j hj => by omega)
  · rw [if_neg (c := mx_rf (some wd) = .ref 1036) (fun e => q (wdE.mp e)), e_X1_place_12 (hq0 := wr)]
    simp only [if_neg q]
    have go : ∀ sk : Nat, sk ≤ 8 → sk = (if wd = 1037 then (cn2 (ts b)).toNat else 0) → Gv 0 (T9 b) z gs h (fun z' gs' h' => ∀ j, j < w → CL z' gs' Q h' 29 (8 * b + j) (plB false (if wd = 1037 then (cn2 (ts b)).toNat else 0) la fa fa (fun x => if wd = 1039 then fa (la - 1) x else false) j)) (mx_D (4, mm_X1_place, 37, [.ref 28, mx_rf (some wd), .int (iI ((ta : Int))), .int (iI ((tb : Int))), .int (iI ((ta : Int))), mx_junk, mx_junk, mx_junk, mx_junk], [.int (iI ((sk : Int)))]) h) := by
      intro sk s8 hs
      rw [e_X1_place_37, X1_widthOf_c C (by omega), hla]
      refine Eq.subst (motive := fun X => Gv 0 (T9 b) z gs h _ X) (e_X1_place_45 (hq0 := wr) ..).symm ?_
      dsimp only
      rw [← hs]
      by_cases q9 : wd = 1039
      · obtain ⟨l, p1, p2⟩ := bit_l C ha (by omega) (A (la - 1) (by omega))
        rw [if_pos (c := mx_rf (some wd) = .ref 1039) (wdE.mpr q9), ii_top a1, p1]
        refine Eq.subst (motive := fun X => Gv 0 (T9 b) z gs h _ X) (e_X1_place_63 ..).symm ?_
        rw [e_X1_place_67]
        exact X1_place_72 hwd (by simp [q]) ha ha hw w8 a8 a8 s8 (fun e => by cases e) w 0 h (by omega) G W C (Lm_f p2 (fun x => by rw [if_pos q9])) A A (fun j hj => by omega)
      · rw [if_neg (c := mx_rf (some wd) = .ref 1039) (fun e => q9 (wdE.mp e)), e_X1_place_67]
        exact X1_place_72 (av := 1) hwd (by simp [q]) ha ha hw w8 a8 a8 s8 (fun e => by cases e) w 0 h (by omega) G W C (Lm_f (Lm_1 G.2.1) (fun x => by rw [if_neg q9])) A A (fun j hj => by omega)
    by_cases q7 : wd = 1037
    · rw [if_pos (c := mx_rf (some wd) = .ref 1037) (wdE.mpr q7), C.1, show (1 : Int32) = iI 1 from rfl, (X7_numberOf_c C.2.2.2 c2).2]
      refine Eq.subst (motive := fun X => Gv 0 (T9 b) z gs h _ X) (e_X1_place_33 ..).symm ?_
      have := go (cn2 (ts b)).toNat (by omega) (by rw [if_pos q7])
      rw [Int.toNat_of_nonneg hq.1] at this
      exact this
    · rw [if_neg (c := mx_rf (some wd) = .ref 1037) (fun e => q7 (wdE.mp e))]
      exact go 0 (by omega) (by rw [if_neg q7])
/-- the cells of an array's new words -/
def stB (i w : Nat) (F : Nat → Int → Bool) (z : Nat) (gs : Nat → Gt) (Q : (Nat → Prop) → Prop) (h : mx_H) (b : Nat) (two : Bool) : Prop := ∀ j, j < i → CL z gs Q h 29 (8 * b + j) (F j) ∧ (two = true → CL z gs Q h 29 (8 * b + (w + j)) (F (w + j)))
def slB (f : Nat → Int → Bool) (w : Nat) (s : Int → Bool) (i : Nat) (x : Int) : Bool := if s x = true then f (w + i) x else f i x
def soB (f e : Nat → Int → Bool) (w : Nat) (s : Int → Bool) (i : Nat) (x : Int) : Bool := if i < w then (if s x = true then f i x else e i x) else (if s x = true then e (i - w) x else f i x)
theorem X1_reach_20s {ta tb sl w : Nat} {v4 : Int32} {s : Int → Bool} {f : Nat → Int → Bool} (ha : ta < b) (w4 : w ≤ 4) : ∀ (d i z : Nat) (gs : Nat → Gt) (h : mx_H) (v8 v9 : Value), i + d = w → z + d ≤ 1065 → GtC z gs h.1 → GW z gs → Cx n b ts h → Lm z gs Q sl s → (∀ k, k < 2 * w → CL z gs Q h 29 (8 * ta + k) (f k)) → (∀ j, j < i → CL z gs Q h 29 (8 * b + j) (slB f w s j)) → Gv d (T9 b) z gs h (fun z' gs' h' => ∀ j, j < w → CL z' gs' Q h' 29 (8 * b + j) (slB f w s j)) (mx_D (4, mm_X1_reach, 20, [.ref 28, mx_rf (some 1040), .int (iI ((ta : Int))), .int (iI ((tb : Int))), .int v4, .int (iI ((w : Int))), .int (iI ((sl : Int))), .int (iI ((i : Int))), v8, v9], []) h) := by
  intro d
  induction d with
  | zero =>
    intro i z gs h v8 v9 hi hz G W C S A R
    rw [e_X1_reach_20, if_pos ((ii_le (by omega)).mpr (by omega))]
    exact ⟨z, gs, h, rfl, GY_r G W, fun j hj => R j (by omega)⟩
  | succ d ih =>
    intro i z gs h v8 v9 hi hz G W C S A R
    obtain ⟨la, p1, p2⟩ := bit_l C ha (by omega) (A i (by omega))
    obtain ⟨lb, q1, q2⟩ := bit_l C ha (by omega) (A (w + i) (by omega))
    obtain ⟨r1, z1, gs1, h1, x1, x2, x3⟩ := mux_m G W (by omega) S q2 p2
    have Y1 : GY 1 (T9 b) z gs h z1 gs1 h1 := GY_g x2
    have Y2 : GY 0 (T9 b) z1 gs1 h1 z1 gs1 (mx_u h1.1 29 (8 * b + i) (iI (r1 : Int)), h1.2.1, h1.2.2) := GY_u x2.1 x2.2.1 (by decide) ⟨rfl, by omega⟩
    have Y := GY_t (m'' := 1) (T'' := T9 b) Y1 Y2 (by omega) (fun _ _ q => q) (fun _ _ q => q)
    have z2b := Y.2.2.2.1
    obtain ⟨z3, gs3, h3, k1, k2, k3⟩ := ih (i + 1) z1 gs1 _ (.int (iI ((la : Int)))) (.int (iI ((lb : Int)))) (by omega) (by omega) Y.1 Y.2.1 (Cx_y Y T9_29 C) (Lm_y W Y S) (fun k hk => CL_y W Y (by omega) (nt9 ha hk (by omega)) (A k hk)) (CL_set (v := 0) (fun j hj => CL_y W (GY_g (T := fun _ _ => False) x2) (by omega) (fun q => q) (R j hj)) x3)
    refine ⟨z3, gs3, h3, ?_, GY_t Y k2 (by omega) (fun _ _ q => q) (fun _ _ q => q), k3⟩
    rw [e_X1_reach_20, if_neg (fun q => by have := (ii_le (by omega)).mp q; omega), p1]
    refine Eq.trans (e_X1_reach_34 ..) ?_
    rw [show iI (w : Int) + iI (i : Int) = iI ((w + i : Nat) : Int) by rw [ii_add]; rfl, q1]
    refine Eq.trans (e_X1_reach_46 (hq0 := rfl) ..) ?_
    rw [if_pos (by rfl), x1]
    refine Eq.trans (e_X1_reach_71 ..) ?_
    rw [X1_set_c (Cx_y Y1 T9_29 C) (by omega)]
    refine Eq.trans (e_X1_reach_74 ..) (Eq.trans (e_X1_reach_130 ..) ?_)
    rw [ii_s]
    exact k1
theorem X1_reach_20o {ta tb tc sl w : Nat} {s : Int → Bool} {f g : Nat → Int → Bool} (ha : ta < b) (hc : tc < b) (w4 : w ≤ 4) : ∀ (d i z : Nat) (gs : Nat → Gt) (h : mx_H) (v8 v9 : Value), i + d = w → z + 2 * d ≤ 1065 → GtC z gs h.1 → GW z gs → Cx n b ts h → Lm z gs Q sl s → (∀ k, k < 2 * w → CL z gs Q h 29 (8 * ta + k) (f k)) → (∀ k, k < w → CL z gs Q h 29 (8 * tc + k) (g k)) → (∀ j, j < i → CL z gs Q h 29 (8 * b + j) (soB f g w s j) ∧ CL z gs Q h 29 (8 * b + (w + j)) (soB f g w s (w + j))) → Gv (2 * d) (T9 b) z gs h (fun z' gs' h' => ∀ j, j < w → CL z' gs' Q h' 29 (8 * b + j) (soB f g w s j) ∧ CL z' gs' Q h' 29 (8 * b + (w + j)) (soB f g w s (w + j))) (mx_D (4, mm_X1_reach, 20, [.ref 28, mx_rf (some 1041), .int (iI ((ta : Int))), .int (iI ((tb : Int))), .int (iI ((tc : Int))), .int (iI ((w : Int))), .int (iI ((sl : Int))), .int (iI ((i : Int))), v8, v9], []) h) := by
  intro d
  induction d with
  | zero =>
    intro i z gs h v8 v9 hi hz G W C S A E R
    rw [e_X1_reach_20, if_pos ((ii_le (by omega)).mpr (by omega))]
    exact ⟨z, gs, h, rfl, GY_r G W, fun j hj => R j (by omega)⟩
  | succ d ih =>
    intro i z gs h v8 v9 hi hz G W C S A E R
    obtain ⟨la, p1, p2⟩ := bit_l C ha (by omega) (A i (by omega))
    obtain ⟨lb, q1, q2⟩ := bit_l C ha (by omega) (A (w + i) (by omega))
    obtain ⟨lc, e1, e2⟩ := bit_l C hc (by omega) (E i (by omega))
    obtain ⟨r1, z1, gs1, h1, x1, x2, x3⟩ := mux_m G W (by omega) S p2 e2
    have Y1 : GY 1 (T9 b) z gs h z1 gs1 h1 := GY_g x2
    have Y2 : GY 0 (T9 b) z1 gs1 h1 z1 gs1 (mx_u h1.1 29 (8 * b + i) (iI (r1 : Int)), h1.2.1, h1.2.2) := GY_u x2.1 x2.2.1 (by decide) ⟨rfl, by omega⟩
    have Y := GY_t (m'' := 1) (T'' := T9 b) Y1 Y2 (by omega) (fun _ _ q => q) (fun _ _ q => q)
    have z2b := Y.2.2.2.1
    obtain ⟨lc', e3, e4⟩ := bit_l (Cx_y Y T9_29 C) hc (by omega) (CL_y W Y (by omega) (nt9 hc (show i < 8 by omega) (by omega)) (E i (by omega)))
    obtain ⟨r2, z2, gs2, h2, y1, y2, y3⟩ := mux_m Y.1 Y.2.1 (by omega) (Lm_y W Y S) e4 (Lm_y W Y q2)
    have Y3 : GY 1 (T9 b) z1 gs1 _ z2 gs2 h2 := GY_g y2
    have Y4 : GY 0 (T9 b) z2 gs2 h2 z2 gs2 (mx_u h2.1 29 (8 * b + (w + i)) (iI (r2 : Int)), h2.2.1, h2.2.2) := GY_u y2.1 y2.2.1 (by decide) ⟨rfl, by omega⟩
    have Y5 := GY_t (m'' := 1) (T'' := T9 b) Y3 Y4 (by omega) (fun _ _ q => q) (fun _ _ q => q)
    have YY := GY_t (m'' := 2) (T'' := T9 b) Y Y5 (by omega) (fun _ _ q => q) (fun _ _ q => q)
    have z3b := YY.2.2.2.1
    have keep : ∀ k F, k ≠ i → k ≠ w + i → CL z gs Q h 29 (8 * b + k) F → CL z2 gs2 Q (mx_u h2.1 29 (8 * b + (w + i)) (iI (r2 : Int)), h2.2.1, h2.2.2) 29 (8 * b + k) F := by
      intro k F n1 n2 c
      obtain ⟨l, u1, u2⟩ := CL_y W (GY_g (T := fun _ _ => False) x2) (by omega) (fun q => q) c
      obtain ⟨l', v1, v2⟩ := CL_y Y.2.1 (GY_g (T := fun _ _ => False) y2) (by omega) (fun q => q) (show CL z1 gs1 Q (mx_u h1.1 29 (8 * b + i) (iI (r1 : Int)), h1.2.1, h1.2.2) 29 (8 * b + k) F from ⟨l, by dsimp only; rw [mu_k _ _ (by omega)]; exact u1, u2⟩)
      exact ⟨l', by dsimp only; rw [mu_k _ _ (by omega)]; exact v1, v2⟩
    obtain ⟨z3, gs3, h3, k1, k2, k3⟩ := ih (i + 1) z2 gs2 _ (.int (iI ((la : Int)))) (.int (iI ((lb : Int)))) (by omega) (by omega) YY.1 YY.2.1 (Cx_y YY T9_29 C) (Lm_y W YY S) (fun k hk => CL_y W YY (by omega) (nt9 ha hk (by omega)) (A k hk)) (fun k hk => CL_y W YY (by omega) (nt9 hc hk (by omega)) (E k hk)) (fun j hj => by
      by_cases e : j = i
      · rw [e]
        refine ⟨?_, ?_⟩
        · obtain ⟨l', v1, v2⟩ := CL_y Y.2.1 (GY_g (T := fun _ _ => False) y2) (by omega) (fun q => q) (show CL z1 gs1 Q (mx_u h1.1 29 (8 * b + i) (iI (r1 : Int)), h1.2.1, h1.2.2) 29 (8 * b + i) (soB f g w s i) from CL_n (Lm_f x3 (fun x => by unfold soB; rw [if_pos (show i < w by omega)])))
          exact ⟨l', by dsimp only; rw [mu_k _ _ (by omega)]; exact v1, v2⟩
        · exact CL_n (Lm_f y3 (fun x => by unfold soB; rw [if_neg (show ¬ w + i < w by omega), show w + i - w = i by omega]))
      · exact ⟨keep j _ e (by omega) (R j (by omega)).1, keep (w + j) _ (by omega) (by omega) (R j (by omega)).2⟩)
    refine ⟨z3, gs3, h3, ?_, GY_t YY k2 (by omega) (fun _ _ q => q) (fun _ _ q => q), k3⟩
    have es : iI (w : Int) + iI (i : Int) = iI ((w + i : Nat) : Int) := by rw [ii_add]; rfl
    rw [e_X1_reach_20, if_neg (fun q => by have := (ii_le (by omega)).mp q; omega), p1]
    refine Eq.trans (e_X1_reach_34 ..) ?_
    rw [es, q1]
    refine Eq.trans (e_X1_reach_46 (hq0 := rfl) ..) ?_
    rw [if_neg (by decide), e1]
    refine Eq.trans (e_X1_reach_96 ..) ?_
    rw [x1]
    refine Eq.trans (e_X1_reach_99 ..) ?_
    rw [X1_set_c (Cx_y Y1 T9_29 C) (by omega)]
    refine Eq.trans (e_X1_reach_102 ..) ?_
    rw [e3]
    refine Eq.trans (e_X1_reach_122 ..) ?_
    rw [y1]
    refine Eq.trans (e_X1_reach_127 ..) ?_
    rw [es, X1_set_c (Cx_y Y3 T9_29 (Cx_y Y T9_29 C)) (by omega)]
    refine Eq.trans (e_X1_reach_130 ..) ?_
    rw [ii_s]
    exact k1
theorem X1_reach_s {ta tb w : Nat} {v4 : Int32} {s : Int → Bool} {f : Nat → Int → Bool} (ha : ta < b) (hb : tb < b) (hw : (bitsS (tS (ts ta))).toNat = 2 * w) (w4 : w ≤ 4) (hz : z + w ≤ 1065) (G : GtC z gs h.1) (W : GW z gs) (C : Cx n b ts h) (A : ∀ k, k < 2 * w → CL z gs Q h 29 (8 * ta + k) (f k)) (B : CL z gs Q h 29 (8 * tb + 0) s) : Gv w (T9 b) z gs h (fun z' gs' h' => ∀ j, j < w → CL z' gs' Q h' 29 (8 * b + j) (slB f w s j)) (mx_C mm_X1_reach [.ref 28, mx_rf (some 1040), .int (iI ((ta : Int))), .int (iI ((tb : Int))), .int v4] h) := by
  have c2 := C.2.1
  obtain ⟨l, p1, p2⟩ := bit_l C hb (by omega) B
  rw [c_X1_reach, e_X1_reach_0, X1_widthOf_c C (by omega), hw]
  refine Eq.subst (motive := fun X => Gv w (T9 b) z gs h _ X) (e_X1_reach_5 ..).symm ?_
  dsimp only
  rw [if_neg (by decide), show mx_C mm_X1_bitOf [.ref 28, .int (iI ((tb : Int))), .int 0] h = _ from p1]
  refine Eq.subst (motive := fun X => Gv w (T9 b) z gs h _ X) (e_X1_reach_15 ..).symm ?_
  dsimp only
  rw [show iI ((2 * w : Nat) : Int) / 2 = iI (w : Int) from by rw [show (2 : Int32) = iI ((2 : Nat) : Int) from rfl, ii_div (by omega) (by omega), show 2 * w / 2 = w by omega]]
  exact X1_reach_20s ha w4 w 0 z gs h _ _ (by omega) hz G W C p2 A (fun j hj => by omega)
theorem X1_reach_o {ta tb tc w : Nat} {s : Int → Bool} {f g : Nat → Int → Bool} (ha : ta < b) (hb : tb < b) (hc : tc < b) (hw : (bitsS (tS (ts ta))).toNat = 2 * w) (w4 : w ≤ 4) (hz : z + 2 * w ≤ 1065) (G : GtC z gs h.1) (W : GW z gs) (C : Cx n b ts h) (A : ∀ k, k < 2 * w → CL z gs Q h 29 (8 * ta + k) (f k)) (B : CL z gs Q h 29 (8 * tb + 0) s) (E : ∀ k, k < w → CL z gs Q h 29 (8 * tc + k) (g k)) : Gv (2 * w) (T9 b) z gs h (fun z' gs' h' => ∀ j, j < 2 * w → CL z' gs' Q h' 29 (8 * b + j) (soB f g w s j)) (mx_C mm_X1_reach [.ref 28, mx_rf (some 1041), .int (iI ((ta : Int))), .int (iI ((tb : Int))), .int (iI ((tc : Int)))] h) := by
  have c2 := C.2.1
  obtain ⟨l, p1, p2⟩ := bit_l C hb (by omega) B
  rw [c_X1_reach, e_X1_reach_0, X1_widthOf_c C (by omega), hw]
  refine Eq.subst (motive := fun X => Gv (2 * w) (T9 b) z gs h _ X) (e_X1_reach_5 ..).symm ?_
  dsimp only
  rw [if_neg (by decide), show mx_C mm_X1_bitOf [.ref 28, .int (iI ((tb : Int))), .int 0] h = _ from p1]
  refine Eq.subst (motive := fun X => Gv (2 * w) (T9 b) z gs h _ X) (e_X1_reach_15 ..).symm ?_
  dsimp only
  rw [show iI ((2 * w : Nat) : Int) / 2 = iI (w : Int) from by rw [show (2 : Int32) = iI ((2 : Nat) : Int) from rfl, ii_div (by omega) (by omega), show 2 * w / 2 = w by omega]]
  obtain ⟨z', gs', h', u1, u2, u3⟩ := X1_reach_20o ha hc w4 w 0 z gs h mx_junk mx_junk (by omega) hz G W C p2 A E (fun j hj => by omega)
  refine ⟨z', gs', h', u1, u2, fun j hj => ?_⟩
  by_cases q : j < w
  · exact (u3 j q).1
  · have := (u3 (j - w) (by omega)).2
    rw [show w + (j - w) = j by omega] at this
    exact this
end CW
