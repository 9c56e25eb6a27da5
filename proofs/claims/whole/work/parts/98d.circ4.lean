/-! the class's circuits: logic, begin -/
section CV
variable {z : Nat} {gs : Nat → Gt} {h : mx_H} {Q : (Nat → Prop) → Prop} {n b : Nat} {ts : Nat → Tm}
theorem Gl_g {m : Nat} {f : Int → Bool} {X : Option mx_O} {k : mx_O → Option mx_O} (g : Gm m z gs h Q f X) (hk : ∀ (r : Nat) (h' : mx_H), k (some (.int (iI ((r : Int)))), h') = some (some (.int (iI ((r : Int)))), h')) : Gl m (fun _ _ => False) z gs h Q f (fun _ _ _ => True) (X.bind k) := by
  obtain ⟨r, z', gs', h', p1, p2, p3⟩ := g
  exact ⟨r, z', gs', h', by rw [p1, Option.bind_some, hk], GY_g p2, p3, trivial⟩
theorem X1_logic_n {a : Nat} {v3 : Int32} {f : Int → Bool} (G : GtC z gs h.1) (W : GW z gs) (A : Lm z gs Q a f) : Gl 1 (fun _ _ => False) z gs h Q (fun x => !(f x)) (fun _ _ _ => True) (mx_C mm_X1_logic [.ref 28, mx_rf (some 1011), .int (iI ((a : Int))), .int v3] h) := by
  refine ⟨ng a, z, gs, h, ?_, GY_r G W, Lm_ng A, trivial⟩
  rw [c_X1_logic]
  refine Eq.trans (e_X1_logic_0 1011 (by decide) ..) ?_
  rw [if_pos (by decide)]
  refine Eq.trans (e_X1_logic_8_4 (some 1011) ..) ?_
  rw [e_X1_logic_40, ii_ng (Lm_lt G A)]
theorem X1_logic_c {k a c : Nat} {f g : Int → Bool} (hk : 5 ≤ k ∧ k ≤ 8) (G : GtC z gs h.1) (W : GW z gs) (hz : z < 1065) (A : Lm z gs Q a f) (B : Lm z gs Q c g) : Gl 1 (fun _ _ => False) z gs h Q (fun x => if k = 5 then f x && g x else if k = 6 then f x || g x else if k = 7 then (f x).xor (g x) else !(f x) || g x) (fun _ _ _ => True) (mx_C mm_X1_logic [.ref 28, mx_rf (some (1007 + k)), .int (iI ((a : Int))), .int (iI ((c : Int)))] h) := by
  have kk : k = 5 ∨ k = 6 ∨ k = 7 ∨ k = 8 := by omega
  rw [c_X1_logic]
  rcases kk with rfl | rfl | rfl | rfl
  · have e : mx_D (12, mm_X1_logic, 0, [.ref 28, mx_rf (some (1007 + 5)), .int (iI ((a : Int))), .int (iI ((c : Int)))], []) h = _ := Eq.trans (e_X1_logic_0 1012 (by decide) ..) (Eq.trans (if_pos (by decide)) (Eq.trans (e_X1_logic_8_5 (some 1012) ..) (e_X1_logic_44 ..)))
    rw [e]
    exact Gl_g (and_m G W hz A B) (fun r h' => e_X1_logic_53 ..)
  · have e : mx_D (12, mm_X1_logic, 0, [.ref 28, mx_rf (some (1007 + 6)), .int (iI ((a : Int))), .int (iI ((c : Int)))], []) h = _ := Eq.trans (e_X1_logic_0 1013 (by decide) ..) (Eq.trans (if_pos (by decide)) (Eq.trans (e_X1_logic_8_6 (some 1013) ..) (e_X1_logic_54 ..)))
    rw [e]
    exact Gl_g (or_m G W hz A B) (fun r h' => e_X1_logic_63 ..)
  · have e : mx_D (12, mm_X1_logic, 0, [.ref 28, mx_rf (some (1007 + 7)), .int (iI ((a : Int))), .int (iI ((c : Int)))], []) h = _ := Eq.trans (e_X1_logic_0 1014 (by decide) ..) (Eq.trans (if_pos (by decide)) (Eq.trans (e_X1_logic_8_7 (some 1014) ..) (e_X1_logic_64 ..)))
    rw [e]
    exact Gl_g (xor_m G W hz A B) (fun r h' => e_X1_logic_73 ..)
  · have e : mx_D (12, mm_X1_logic, 0, [.ref 28, mx_rf (some (1007 + 8)), .int (iI ((a : Int))), .int (iI ((c : Int)))], []) h = _ := Eq.trans (e_X1_logic_0 1015 (by decide) ..) (Eq.trans (if_pos (by decide)) (Eq.trans (e_X1_logic_8_d (some 1015) (hx := by decide) ..) (e_X1_logic_74 ..)))
    rw [e, ii_ng (Lm_lt G A)]
    exact Gl_g (or_m G W hz (Lm_ng A) B) (fun r h' => e_X1_logic_85 ..)
theorem X1_begin_t {wd : Nat} (hwd : wd = 1008 ∨ wd = 1009) (G : GtC z gs h.1) (W : GW z gs) (C : Cx n b ts h) : Gv 0 (T9 b) z gs h (fun z' gs' h' => CL z' gs' Q h' 29 (8 * b + 0) (fun _ => decide (wd = 1008))) (mx_C mm_X1_begin [.ref 28, mx_rf (some wd)] h) := by
  have wr : mx_wr (mx_rf (some wd)) = true := decide_eq_true (p := 1000 ≤ wd ∧ wd < 1042) (by omega)
  have go : ∀ r : Nat, Lm z gs Q r (fun _ => decide (wd = 1008)) → ∀ v2 : Int32, Gv 0 (T9 b) z gs h (fun z' gs' h' => CL z' gs' Q h' 29 (8 * b + 0) (fun _ => decide (wd = 1008))) (mx_D (4, mm_X1_begin, 41, [.ref 28, mx_rf (some wd), .int v2, mx_junk], [.int (iI ((r : Int))), .int (iI (((0 : Nat) : Int))), .ref 28]) h) := by
    intro r M v2
    refine ⟨z, gs, (mx_u h.1 29 (8 * b + 0) (iI (r : Int)), h.2.1, h.2.2), ?_, GY_u G W (by decide) ⟨rfl, by omega⟩, CL_n M⟩
    rw [e_X1_begin_41, X1_set_c C (by omega)]
    exact e_X1_begin_44 ..
  rw [c_X1_begin, e_X1_begin_0, C.1, show (0 : Int32) = iI 0 from rfl, (X7_numberOf_c C.2.2.2 C.2.1).1]
  refine Eq.subst (motive := fun X => Gv 0 (T9 b) z gs h _ X) (e_X1_begin_12 (hq0 := wr) ..).symm ?_
  by_cases q : wd = 1008
  · rw [if_pos (c := mx_rf (some wd) = .ref 1008) (wdE.mpr q), e_X1_begin_27 (hq0 := wr), if_pos (c := mx_rf (some wd) = .ref 1008) (wdE.mpr q)]
    exact go 0 (Lm_f (Lm_0 G.2.1) (fun x => (decide_eq_true q).symm)) _
  · rw [if_neg (c := mx_rf (some wd) = .ref 1008) (fun e => q (wdE.mp e)), if_pos (c := mx_rf (some wd) = .ref 1009) (wdE.mpr (hwd.resolve_left q)), e_X1_begin_27 (hq0 := wr), if_neg (c := mx_rf (some wd) = .ref 1008) (fun e => q (wdE.mp e))]
    exact go 1 (Lm_f (Lm_1 G.2.1) (fun x => (decide_eq_false q).symm)) _
theorem X1_begin_47 {wd nu w : Nat} {F : Nat → Int → Bool} (hwd : wd = 1004 ∨ wd = 1001) (hnu : nu ≤ 65536) (hw : (bitsS (tS (ts b))).toNat = w) (w8 : w ≤ 8) (hF : ∀ i, i < w → Lm z gs Q (if wd = 1004 then 2 * (1 + nu + i) else if nu / 2 ^ i % 2 = 1 then 0 else 1) (F i)) : ∀ (d i : Nat) (h : mx_H), i + d = w → GtC z gs h.1 → GW z gs → Cx n b ts h → (∀ j, j < i → CL z gs Q h 29 (8 * b + j) (F j)) → Gv 0 (T9 b) z gs h (fun z' gs' h' => ∀ j, j < w → CL z' gs' Q h' 29 (8 * b + j) (F j)) (mx_D (4, mm_X1_begin, 47, [.ref 28, mx_rf (some wd), .int (iI ((nu : Int))), .int (iI ((i : Int)))], []) h) := by
  have wr : mx_wr (mx_rf (some wd)) = true := decide_eq_true (p := 1000 ≤ wd ∧ wd < 1042) (by omega)
  intro d
  induction d with
  | zero =>
    intro i h hi G W C R
    have c2 := C.2.1
    rw [e_X1_begin_47, C.1, X1_widthOf_c C c2, hw]
    refine ⟨z, gs, h, Eq.trans (e_X1_begin_56 (hq0 := wr) ..) ?_, GY_r G W, fun j hj => R j (by omega)⟩
    rw [if_pos ((ii_le (by omega)).mpr (by omega))]
  | succ d ih =>
    intro i h hi G W C R
    have c2 := C.2.1
    have go : ∀ r : Nat, Lm z gs Q r (F i) → ∀ Y, Y = mx_D (4, mm_X1_begin, 100, [.ref 28, mx_rf (some wd), .int (iI ((nu : Int))), .int (iI ((i : Int)))], []) (mx_u h.1 29 (8 * b + i) (iI (r : Int)), h.2.1, h.2.2) → Gv 0 (T9 b) z gs h (fun z' gs' h' => ∀ j, j < w → CL z' gs' Q h' 29 (8 * b + j) (F j)) Y := by
      intro r M Y hY
      have Y2 : GY 0 (T9 b) z gs h z gs (mx_u h.1 29 (8 * b + i) (iI (r : Int)), h.2.1, h.2.2) := GY_u G W (by decide) ⟨rfl, by omega⟩
      obtain ⟨z3, gs3, h3, k1, k2, k3⟩ := ih (i + 1) _ (by omega) Y2.1 W (Cx_y Y2 T9_29 C) (CL_set (v := 0) R M)
      refine ⟨z3, gs3, h3, ?_, GY_t Y2 k2 (by omega) (fun _ _ q => q) (fun _ _ q => q), k3⟩
      rw [hY, e_X1_begin_100, ii_s]
      exact k1
    have hFi := hF i (by omega)
    rw [e_X1_begin_47, C.1, X1_widthOf_c C c2, hw]
    refine Eq.subst (motive := fun X => Gv 0 (T9 b) z gs h _ X) (e_X1_begin_56 (hq0 := wr) ..).symm ?_
    dsimp only
    rw [if_neg (fun q => by have := (ii_le (by omega)).mp q; omega)]
    by_cases q : wd = 1004
    · rw [if_pos (c := mx_rf (some wd) = .ref 1004) (wdE.mpr q)]
      rw [if_pos q] at hFi
      have e : (2 : Int32) * ((1 + iI (nu : Int)) + iI (i : Int)) = iI ((2 * (1 + nu + i) : Nat) : Int) := by
        rw [show (2 : Int32) = iI 2 from rfl, show (1 : Int32) = iI 1 from rfl, ii_add, ii_add, ii_mul]; rfl
      rw [e, X1_set_c C (by omega)]
      exact go _ hFi _ (e_X1_begin_78 ..)
    · rw [if_neg (c := mx_rf (some wd) = .ref 1004) (fun e => q (wdE.mp e))]
      rw [if_neg q] at hFi
      have e3 : iI (nu : Int) >>> (iI (i : Int) &&& 31) &&& 1 = iI ((nu / 2 ^ i % 2 : Nat) : Int) := by
        rw [show (31 : Int32) = iI 31 from rfl, ii_shr (by omega), show (1 : Int32) = iI 1 from rfl, ii_and1, Int.toNat_natCast]
        push_cast
        rfl
      rw [e3]
      by_cases y : nu / 2 ^ i % 2 = 1
      · rw [if_pos (show iI ((nu / 2 ^ i % 2 : Nat) : Int) = 1 by rw [y]; rfl)]
        rw [if_pos y] at hFi
        refine go 0 hFi _ ?_
        rw [e_X1_begin_97, X1_set_c C (by omega)]
        rfl
      · rw [if_neg (show ¬ iI ((nu / 2 ^ i % 2 : Nat) : Int) = 1 from fun e => y (by have := (ii_eq (b := 1) (by omega) (by decide)).mp e; omega))]
        rw [if_neg y] at hFi
        refine go 1 hFi _ ?_
        rw [e_X1_begin_97, X1_set_c C (by omega)]
        rfl
theorem X1_begin_w {wd nu w : Nat} {F : Nat → Int → Bool} (hwd : wd = 1004 ∨ wd = 1001) (hcn : cn1 (ts b) = (nu : Int)) (hnu : nu ≤ 65536) (hw : (bitsS (tS (ts b))).toNat = w) (w8 : w ≤ 8) (hF : ∀ i, i < w → Lm z gs Q (if wd = 1004 then 2 * (1 + nu + i) else if nu / 2 ^ i % 2 = 1 then 0 else 1) (F i)) (G : GtC z gs h.1) (W : GW z gs) (C : Cx n b ts h) : Gv 0 (T9 b) z gs h (fun z' gs' h' => ∀ j, j < w → CL z' gs' Q h' 29 (8 * b + j) (F j)) (mx_C mm_X1_begin [.ref 28, mx_rf (some wd)] h) := by
  have wr : mx_wr (mx_rf (some wd)) = true := decide_eq_true (p := 1000 ≤ wd ∧ wd < 1042) (by omega)
  rw [c_X1_begin, e_X1_begin_0, C.1, show (0 : Int32) = iI 0 from rfl, (X7_numberOf_c C.2.2.2 C.2.1).1, hcn]
  refine Eq.subst (motive := fun X => Gv 0 (T9 b) z gs h _ X) (e_X1_begin_12 (hq0 := wr) ..).symm ?_
  rw [if_neg (c := mx_rf (some wd) = .ref 1008) (fun e => by have := wdE.mp e; omega), if_neg (c := mx_rf (some wd) = .ref 1009) (fun e => by have := wdE.mp e; omega)]
  exact X1_begin_47 hwd hnu hw w8 hF w 0 h (by omega) G W C (fun j hj => by omega)
end CV
