/-! the class's circuits: less, place -/
def lsB (sg : Bool) (top : Nat) (f g : Nat → Int → Bool) (i0 : Bool) : Nat → Int → Bool
  | 0, _ => i0
  | i + 1, x => if (f i x).xor (g i x) = true then (if sg = true ∧ i = top then f i x else g i x) else lsB sg top f g i0 i x
section CZ
variable {z : Nat} {gs : Nat → Gt} {h : mx_H} {Q : (Nat → Prop) → Prop} {n b : Nat} {ts : Nat → Tm}
theorem ii_top {w : Nat} (h : 1 ≤ w) : iI (w : Int) - 1 = iI ((w - 1 : Nat) : Int) := by rw [show (1 : Int32) = iI 1 from rfl, ii_sub]; congr 1; omega
theorem X1_less_54 {o : Option Nat} {ta tb w : Nat} {sg i0 : Bool} {f g : Nat → Int → Bool} (ha : ta < b) (hb : tb < b) (w1 : 1 ≤ w) (w8 : w ≤ 8) : ∀ (d i z : Nat) (gs : Nat → Gt) (h : mx_H) (r : Nat) (v8 : Value), i + d = w → z + 2 * d ≤ 1065 → GtC z gs h.1 → GW z gs → Cx n b ts h → (∀ k, k < w → CL z gs Q h 29 (8 * ta + k) (f k) ∧ CL z gs Q h 29 (8 * tb + k) (g k)) → Lm z gs Q r (lsB sg (w - 1) f g i0 i) → Gl (2 * d) (fun _ _ => False) z gs h Q (lsB sg (w - 1) f g i0 w) (fun _ _ _ => True) (mx_D (4, mm_X1_less, 54, [.ref 28, mx_rf o, .int (iI ((ta : Int))), .int (iI ((tb : Int))), .int (iI (((w - 1 : Nat) : Int))), .int (bI sg), .int (iI ((r : Int))), .int (iI ((i : Int))), v8], []) h) := by
  intro d
  induction d with
  | zero =>
    intro i z gs h r v8 hi hz G W C B R
    rw [e_X1_less_54, if_pos ((ii_lt (by omega)).mpr (by omega))]
    exact ⟨r, z, gs, h, rfl, GY_r G W, by rw [show w = i by omega] at R ⊢; exact R, trivial⟩
  | succ d ih =>
    intro i z gs h r v8 hi hz G W C B R
    rw [e_X1_less_54, if_neg (fun q => by have := (ii_lt (by omega)).mp q; omega)]
    obtain ⟨la, p1, p2⟩ := bit_l C ha (by omega) (B i (by omega)).1
    obtain ⟨lb, q1, q2⟩ := bit_l C hb (by omega) (B i (by omega)).2
    have go : ∀ lm : Nat, Lm z gs Q lm (fun x => if sg = true ∧ i = w - 1 then f i x else g i x) → Gl (2 * (d + 1)) (fun _ _ => False) z gs h Q (lsB sg (w - 1) f g i0 w) (fun _ _ _ => True) (mx_D (4, mm_X1_less, 90, [.ref 28, mx_rf o, .int (iI ((ta : Int))), .int (iI ((tb : Int))), .int (iI (((w - 1 : Nat) : Int))), .int (bI sg), .int (iI ((r : Int))), .int (iI ((i : Int))), v8], [.int (iI ((lm : Int)))]) h) := by
      intro lm M
      obtain ⟨r1, z1, gs1, h1, x1, x2, x3⟩ := xor_m G W (by omega) p2 q2
      have Y1 : GY 1 (fun _ _ => False) z gs h z1 gs1 h1 := GY_g x2
      have z1b := x2.2.2.2.1
      obtain ⟨r2, z2, gs2, h2, y1, y2, y3⟩ := mux_m x2.1 x2.2.1 (by omega) x3 (Lm_y W Y1 M) (Lm_y W Y1 R)
      have Y2 : GY 1 (fun _ _ => False) z1 gs1 h1 z2 gs2 h2 := GY_g y2
      have Y := GY_t (m'' := 2) (T'' := fun _ _ => False) Y1 Y2 (by omega) (fun _ _ q => q) (fun _ _ q => q)
      have z2b := Y.2.2.2.1
      obtain ⟨rr, z3, gs3, h3, k1, k2, k3, k4⟩ := ih (i + 1) z2 gs2 h2 r2 (.int (iI ((lm : Int)))) (by omega) (by omega) Y.1 Y.2.1 (Cx_y Y (fun _ _ q => q.elim) C) (fun k hk => ⟨CL_y W Y (by omega) (fun q => q) (B k hk).1, CL_y W Y (by omega) (fun q => q) (B k hk).2⟩) y3
      refine ⟨rr, z3, gs3, h3, ?_, GY_t Y k2 (by omega) (fun _ _ q => q) (fun _ _ q => q), k3, trivial⟩
      rw [e_X1_less_90, p1]
      refine Eq.trans (e_X1_less_107 ..) ?_
      rw [q1]
      refine Eq.trans (e_X1_less_114 ..) ?_
      rw [x1]
      refine Eq.trans (e_X1_less_117 ..) ?_
      rw [y1]
      refine Eq.trans (e_X1_less_124 ..) ?_
      rw [ii_s]
      exact k1
    have m83 : ¬ (sg = true ∧ i = w - 1) → Gl (2 * (d + 1)) (fun _ _ => False) z gs h Q (lsB sg (w - 1) f g i0 w) (fun _ _ _ => True) (mx_D (4, mm_X1_less, 83, [.ref 28, mx_rf o, .int (iI ((ta : Int))), .int (iI ((tb : Int))), .int (iI (((w - 1 : Nat) : Int))), .int (bI sg), .int (iI ((r : Int))), .int (iI ((i : Int))), v8], []) h) := by
      intro ne
      rw [e_X1_less_83, q1]
      exact go lb (Lm_f q2 (fun x => by rw [if_neg ne]))
    cases sg with
    | false =>
      rw [if_pos (show bI false = 0 from rfl)]
      exact m83 (fun q => by cases q.1)
    | true =>
      rw [if_neg (show ¬ bI true = 0 by decide)]
      by_cases e : i = w - 1
      · rw [if_pos (by rw [e]), p1]
        refine Eq.subst (motive := fun X => Gl (2 * (d + 1)) (fun _ _ => False) z gs h Q (lsB true (w - 1) f g i0 w) (fun _ _ _ => True) X) (e_X1_less_80 ..).symm ?_
        exact go la (Lm_f p2 (fun x => by rw [if_pos ⟨rfl, e⟩]))
      · rw [if_neg (fun q => e (by have := (ii_eq (by omega) (by omega)).mp q; omega))]
        exact m83 (fun q => e q.2)
theorem X1_less_c {wd ta tb w : Nat} {f g : Nat → Int → Bool} (hwd : 1032 ≤ wd ∧ wd ≤ 1035) (ha : ta < b) (hb : tb < b) (hw : (bitsS (tS (ts ta))).toNat = w) (w1 : 1 ≤ w) (w8 : w ≤ 8) (hz : z + 2 * w ≤ 1065) (G : GtC z gs h.1) (W : GW z gs) (C : Cx n b ts h) (B : ∀ k, k < w → CL z gs Q h 29 (8 * ta + k) (f k) ∧ CL z gs Q h 29 (8 * tb + k) (g k)) : Gl (2 * w) (fun _ _ => False) z gs h Q (lsB (decide (1034 ≤ wd)) (w - 1) f g (decide (wd % 2 = 1)) w) (fun _ _ _ => True) (mx_C mm_X1_less [.ref 28, mx_rf (some wd), .int (iI ((ta : Int))), .int (iI ((tb : Int)))] h) := by
  have c2 := C.2.1
  have go : ∀ sg i0 : Bool, Gl (2 * w) (fun _ _ => False) z gs h Q (lsB sg (w - 1) f g i0 w) (fun _ _ _ => True) (mx_D (4, mm_X1_less, 49, [.ref 28, mx_rf (some wd), .int (iI ((ta : Int))), .int (iI ((tb : Int))), .int (iI (((w - 1 : Nat) : Int))), .int (bI sg), mx_junk, mx_junk, mx_junk], [.int (bI (!i0))]) h) := by
    intro sg i0
    rw [e_X1_less_49, show bI (!i0) = iI ((if i0 = true then 0 else 1 : Nat) : Int) by cases i0 <;> rfl]
    exact X1_less_54 ha hb w1 w8 w 0 z gs h _ _ (by omega) hz G W C B (by cases i0; exact Lm_1 G.2.1; exact Lm_0 G.2.1)
  have wr : mx_wr (mx_rf (some wd)) = true := decide_eq_true (p := 1000 ≤ wd ∧ wd < 1042) (by omega)
  rw [c_X1_less, e_X1_less_0, X1_widthOf_c C (by omega), hw]
  refine Eq.subst (motive := fun X => Gl (2 * w) (fun _ _ => False) z gs h Q (lsB (decide (1034 ≤ wd)) (w - 1) f g (decide (wd % 2 = 1)) w) (fun _ _ _ => True) X) (e_X1_less_5 (hq0 := wr) ..).symm ?_
  rw [ii_top w1]
  have : wd = 1032 ∨ wd = 1033 ∨ wd = 1034 ∨ wd = 1035 := by omega
  rcases this with rfl | rfl | rfl | rfl
  · rw [if_neg (by decide), if_neg (by decide), e_X1_less_28 (hq0 := wr), if_neg (by decide), if_neg (by decide)]
    exact go false false
  · rw [if_neg (by decide), if_neg (by decide), e_X1_less_28 (hq0 := wr), if_pos (by decide), e_X1_less_44]
    exact go false true
  · rw [if_pos (by decide), e_X1_less_23, e_X1_less_28 (hq0 := wr), if_neg (by decide), if_neg (by decide)]
    exact go true false
  · rw [if_neg (by decide), if_pos (by decide), e_X1_less_23, e_X1_less_28 (hq0 := wr), if_neg (by decide), if_pos (by decide), e_X1_less_44]
    exact go true true
/-- the cells of the new term so far -/
theorem CL_set {v i : Nat} {F : Nat → Int → Bool} {r : Nat} (R : ∀ j, j < i → CL z gs Q h 29 (8 * b + j) (F j)) (r1 : Lm z gs Q r (F i)) : ∀ j, j < i + 1 → CL z gs Q (mx_u h.1 29 (8 * b + i) (iI (r : Int)), h.2.1, h.2.2) 29 (8 * b + j) (F j) := by
  intro j hj
  by_cases e : j = i
  · rw [e]; exact CL_n r1
  · obtain ⟨l, u1, u2⟩ := R j (by omega)
    exact ⟨l, by dsimp only; rw [mu_k _ _ (by omega)]; exact u1, u2⟩
theorem nt9 {t k w : Nat} (p : t < b) (q : k < w) (w8 : w ≤ 8) : ¬ T9 b 29 (8 * t + k) := fun e => by have := e.2; omega
def plB (cc : Bool) (sk lw : Nat) (fl fa : Nat → Int → Bool) (ab : Int → Bool) (i : Nat) (x : Int) : Bool := if i + sk < lw then fl (i + sk) x else if cc = true then fa (i - lw) x else ab x
theorem X1_place_72 {wd ta tb tl sk lw wa av w : Nat} {cc : Bool} {fl fa : Nat → Int → Bool} {ab : Int → Bool} (hwd : 1036 ≤ wd ∧ wd ≤ 1039) (hcc : (wd = 1036) ↔ cc = true) (ha : ta < b) (hl : tl < b) (hw : (bitsS (tS (ts b))).toNat = w) (w8 : w ≤ 8) (l8 : lw ≤ 8) (a8 : wa ≤ 8) (sk8 : sk ≤ 8) (hcw : cc = true → w ≤ lw + wa ∧ sk = 0) : ∀ (d i : Nat) (h : mx_H), i + d = w → GtC z gs h.1 → GW z gs → Cx n b ts h → Lm z gs Q av ab → (∀ k, k < lw → CL z gs Q h 29 (8 * tl + k) (fl k)) → (∀ k, k < wa → CL z gs Q h 29 (8 * ta + k) (fa k)) → (∀ j, j < i → CL z gs Q h 29 (8 * b + j) (plB cc sk lw fl fa ab j)) → Gv 0 (T9 b) z gs h (fun z' gs' h' => ∀ j, j < w → CL z' gs' Q h' 29 (8 * b + j) (plB cc sk lw fl fa ab j)) (mx_D (4, mm_X1_place, 72, [.ref 28, mx_rf (some wd), .int (iI ((ta : Int))), .int (iI ((tb : Int))), .int (iI ((tl : Int))), .int (iI ((sk : Int))), .int (iI ((lw : Int))), .int (iI ((av : Int))), .int (iI ((i : Int)))], []) h) := by
  have wr : mx_wr (mx_rf (some wd)) = true := decide_eq_true (p := 1000 ≤ wd ∧ wd < 1042) (by omega)
  intro d
  induction d with
  | zero =>
    intro i h hi G W C A L B R
    have c2 := C.2.1
    rw [e_X1_place_72, C.1, X1_widthOf_c C (by omega), hw]
    refine ⟨z, gs, h, Eq.trans (e_X1_place_82 (hq0 := wr) ..) ?_, GY_r G W, fun j hj => R j (by omega)⟩
    rw [if_pos ((ii_le (by omega)).mpr (by omega))]
  | succ d ih =>
    intro i h hi G W C A L B R
    have c2 := C.2.1
    have go : ∀ r : Nat, Lm z gs Q r (plB cc sk lw fl fa ab i) → ∀ Y, (Y = mx_D (4, mm_X1_place, 143, [.ref 28, mx_rf (some wd), .int (iI ((ta : Int))), .int (iI ((tb : Int))), .int (iI ((tl : Int))), .int (iI ((sk : Int))), .int (iI ((lw : Int))), .int (iI ((av : Int))), .int (iI ((i : Int)))], []) (mx_u h.1 29 (8 * b + i) (iI (r : Int)), h.2.1, h.2.2)) → Gv 0 (T9 b) z gs h (fun z' gs' h' => ∀ j, j < w → CL z' gs' Q h' 29 (8 * b + j) (plB cc sk lw fl fa ab j)) Y := by
      intro r M Y hY
      have Y2 : GY 0 (T9 b) z gs h z gs (mx_u h.1 29 (8 * b + i) (iI (r : Int)), h.2.1, h.2.2) := GY_u G W (by decide) ⟨rfl, by omega⟩
      obtain ⟨z3, gs3, h3, k1, k2, k3⟩ := ih (i + 1) _ (by omega) Y2.1 W (Cx_y Y2 T9_29 C) A (fun k hk => CL_y W Y2 (by omega) (nt9 hl hk l8) (L k hk)) (fun k hk => CL_y W Y2 (by omega) (nt9 ha hk a8) (B k hk)) (CL_set (v := 0) R M)
      refine ⟨z3, gs3, h3, ?_, GY_t Y2 k2 (by omega) (fun _ _ q => q) (fun _ _ q => q), k3⟩
      rw [hY, e_X1_place_143, ii_s]
      exact k1
    rw [e_X1_place_72, C.1, X1_widthOf_c C (by omega), hw]
    refine Eq.subst (motive := fun X => Gv 0 (T9 b) z gs h _ X) (e_X1_place_82 (hq0 := wr) ..).symm ?_
    dsimp only
    rw [if_neg (fun q => by have := (ii_le (by omega)).mp q; omega)]
    have es : iI (i : Int) + iI (sk : Int) = iI ((i + sk : Nat) : Int) := by rw [ii_add]; rfl
    rw [es]
    by_cases q : i + sk < lw
    · rw [if_neg (fun e => by have := (ii_le (by omega)).mp e; omega)]
      obtain ⟨la, p1, p2⟩ := bit_l C hl (by omega) (L (i + sk) q)
      rw [p1]
      refine go la (Lm_f p2 (fun x => by unfold plB; rw [if_pos q])) _ ?_
      refine Eq.trans (e_X1_place_109 ..) ?_
      rw [X1_set_c C (by omega)]
      exact e_X1_place_112 ..
    · rw [if_pos ((ii_le (by omega)).mpr (by omega))]
      by_cases qc : cc = true
      · have e36 := hcc.mpr qc
        have cw := hcw qc
        rw [if_pos (by rw [e36]; rfl)]
        have es : iI (i : Int) - iI (lw : Int) = iI ((i - lw : Nat) : Int) ∨ i < lw := by
          by_cases y : i < lw
          · exact Or.inr y
          · left; rw [ii_sub]; congr 1; omega
        rcases es with es | es
        · rw [es]
          by_cases y : i - lw < wa
          · obtain ⟨la, p1, p2⟩ := bit_l C ha (by omega) (B (i - lw) y)
            rw [p1]
            refine go la (Lm_f p2 (fun x => by unfold plB; rw [if_neg q, if_pos qc])) _ ?_
            refine Eq.trans (e_X1_place_135 ..) (Eq.trans (e_X1_place_140 ..) ?_)
            rw [X1_set_c C (by omega)]
            rfl
          · exfalso; omega
        · exfalso; omega
      · rw [if_neg (fun e => qc (hcc.mp (by injection e)))]
        refine go av (Lm_f A (fun x => by unfold plB; rw [if_neg q, if_neg qc])) _ ?_
        refine Eq.trans (e_X1_place_140 ..) ?_
        rw [X1_set_c C (by omega)]
        rfl
end CZ
