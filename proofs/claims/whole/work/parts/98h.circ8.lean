/-! the class's circuits: shift, calculate -/
/-- the bit that moves to place i -/
def mvB (sl : Bool) (w k : Nat) (L : Nat → Int → Bool) (fi : Int → Bool) (i : Nat) (x : Int) : Bool := if sl = true then (if i < 2 ^ k then fi x else L (i - 2 ^ k) x) else if i + 2 ^ k < w then L (i + 2 ^ k) x else fi x
def shB (sl : Bool) (w : Nat) (a c : Nat → Int → Bool) (fi : Int → Bool) : Nat → Nat → Int → Bool
  | 0, i, x => a i x
  | k + 1, i, x => if c k x = true then mvB sl w k (shB sl w a c fi k) fi i x else shB sl w a c fi k i x
section CR
variable {z : Nat} {gs : Nat → Gt} {h : mx_H} {Q : (Nat → Prop) → Prop} {n b : Nat} {ts : Nat → Tm}
theorem X1_shift_142 {o : Option Nat} {ta tb w fl k : Nat} {v7 : Int32} {v9 v10 : Value} {F : Nat → Int → Bool} (w4 : w ≤ 4) : ∀ (d i : Nat) (h : mx_H), i + d = w → GtC z gs h.1 → GW z gs → AR z gs Q h 32 w F → AR z gs Q h 30 i F → ∃ h', mx_D (4, mm_X1_shift, 142, [.ref 28, mx_rf o, .int (iI ((ta : Int))), .int (iI ((tb : Int))), .int (iI ((w : Int))), .int (iI ((fl : Int))), .int (iI ((k : Int))), .int v7, .int (iI ((i : Int))), v9, v10], []) h = mx_D (4, mm_X1_shift, 32, [.ref 28, mx_rf o, .int (iI ((ta : Int))), .int (iI ((tb : Int))), .int (iI ((w : Int))), .int (iI ((fl : Int))), .int (iI (((k + 1 : Nat) : Int))), .int v7, .int (iI ((w : Int))), v9, v10], []) h' ∧ GY 0 (TA 30) z gs h z gs h' ∧ AR z gs Q h' 30 w F := by
  intro d
  induction d with
  | zero =>
    intro i h hi G W S L
    have iw : i = w := by omega
    rw [iw] at L ⊢
    refine ⟨h, ?_, GY_r G W, L⟩
    rw [e_X1_shift_142, if_pos ((ii_le (by omega)).mpr (by omega)), ii_s]
  | succ d ih =>
    intro i h hi G W S L
    obtain ⟨l, p1, p2⟩ := S i (by omega)
    have Y : GY 0 (TA 30) z gs h z gs (mx_u h.1 30 i (iI (l : Int)), h.2.1, h.2.2) := GY_u G W (by decide) rfl
    obtain ⟨h3, k1, k2, k3⟩ := ih (i + 1) _ (by omega) Y.1 W (AR_y W Y (by decide) (fun k (q : 32 = 30) => by omega) S) (AR_u L p2)
    refine ⟨h3, ?_, GY_t Y k2 (by omega) (fun _ _ q => q) (fun _ _ q => q), k3⟩
    rw [e_X1_shift_142, if_neg (fun q => by have := (ii_le (by omega)).mp q; omega), if_pos (in4 (by omega)), if_pos (in4 (by omega)), cln (by omega), p1, ii_s]
    exact k1
theorem X1_shift_63 {o : Option Nat} {ta tb w fl k : Nat} {sl : Bool} {L g : Nat → Int → Bool} {fi : Int → Bool} (w4 : w ≤ 4) (kw : k < w) : ∀ (d i z : Nat) (gs : Nat → Gt) (h : mx_H) (v9 v10 : Value), i + d = w → z + d ≤ 1065 → GtC z gs h.1 → GW z gs → Cx n b ts h → Lm z gs Q fl fi → Opd z gs Q h b (iI (tb : Int)) w g → AR z gs Q h 30 w L → AR z gs Q h 32 i (fun i x => if g k x = true then mvB sl w k L fi i x else L i x) → ∃ v9' v10' z' gs' h', mx_D (4, mm_X1_shift, 63, [.ref 28, mx_rf o, .int (iI ((ta : Int))), .int (iI ((tb : Int))), .int (iI ((w : Int))), .int (iI ((fl : Int))), .int (iI ((k : Int))), .int (iI ((if sl = true then -(2 ^ k) else 2 ^ k))), .int (iI ((i : Int))), v9, v10], []) h = mx_D (4, mm_X1_shift, 142, [.ref 28, mx_rf o, .int (iI ((ta : Int))), .int (iI ((tb : Int))), .int (iI ((w : Int))), .int (iI ((fl : Int))), .int (iI ((k : Int))), .int (iI ((if sl = true then -(2 ^ k) else 2 ^ k))), .int (iI (((0 : Nat) : Int))), v9', v10'], []) h' ∧ GY d (TA 32) z gs h z' gs' h' ∧ AR z' gs' Q h' 32 w (fun i x => if g k x = true then mvB sl w k L fi i x else L i x) := by
  have k2 : 1 ≤ 2 ^ k ∧ 2 ^ k ≤ 8 ∧ ((2 ^ k : Nat) : Int) = 2 ^ k := by
    refine ⟨Nat.one_le_two_pow, ?_, by push_cast; rfl⟩
    have : k = 0 ∨ k = 1 ∨ k = 2 ∨ k = 3 := by omega
    rcases this with e | e | e | e <;> rw [e] <;> decide
  intro d
  induction d with
  | zero =>
    intro i z gs h v9 v10 hi hz G W C M B R S
    have iw : i = w := by omega
    rw [iw] at S ⊢
    refine ⟨v9, v10, z, gs, h, ?_, GY_r G W, S⟩
    rw [e_X1_shift_63, if_pos ((ii_le (by omega)).mpr (by omega))]
    rfl
  | succ d ih =>
    intro i z gs h v9 v10 hi hz G W C M B R S
    obtain ⟨lc, c1, c2⟩ := opd_l G C B kw (by omega)
    obtain ⟨lo, o1, o2⟩ := R i (by omega)
    have go : ∀ (mv : Nat) (v9 : Int32), Lm z gs Q mv (mvB sl w k L fi i) → ∃ v9' v10' z' gs' h', mx_D (4, mm_X1_shift, 101, [.ref 28, mx_rf o, .int (iI ((ta : Int))), .int (iI ((tb : Int))), .int (iI ((w : Int))), .int (iI ((fl : Int))), .int (iI ((k : Int))), .int (iI ((if sl = true then -(2 ^ k) else 2 ^ k))), .int (iI ((i : Int))), .int v9, v10], [.int (iI ((mv : Int)))]) h = mx_D (4, mm_X1_shift, 142, [.ref 28, mx_rf o, .int (iI ((ta : Int))), .int (iI ((tb : Int))), .int (iI ((w : Int))), .int (iI ((fl : Int))), .int (iI ((k : Int))), .int (iI ((if sl = true then -(2 ^ k) else 2 ^ k))), .int (iI (((0 : Nat) : Int))), v9', v10'], []) h' ∧ GY (d + 1) (TA 32) z gs h z' gs' h' ∧ AR z' gs' Q h' 32 w (fun i x => if g k x = true then mvB sl w k L fi i x else L i x) := by
      intro mv v9 N
      obtain ⟨r1, z1, gs1, h1, x1, x2, x3⟩ := mux_m G W (by omega) c2 N o2
      have X2 : GY 1 (TA 32) z gs h z1 gs1 h1 := GY_g x2
      have X5 : GY 0 (TA 32) z1 gs1 h1 z1 gs1 (mx_u h1.1 32 i (iI (r1 : Int)), h1.2.1, h1.2.2) := GY_u X2.1 X2.2.1 (by decide) rfl
      have X6 := GY_t (m'' := 1) (T'' := TA 32) X2 X5 (by omega) (fun _ _ q => q) (fun _ _ q => q)
      have zb := X6.2.2.2.1
      obtain ⟨v9', v10', z', gs', h', e1, e2, e3⟩ := ih (i + 1) z1 gs1 _ (.int v9) (.int (iI ((mv : Int)))) (by omega) (by omega) X6.1 X6.2.1 (Cx_y X6 (TA_29 (by decide)) C) (Lm_y W X6 M) (opd_y W X6 (fun t k _ _ => n29 (by decide) t k) B) (AR_y W X6 (by decide) (fun k (q : 30 = 32) => by omega) R) (AR_u (fun j hj => CL_y W (GY_g (T := fun _ _ => False) x2) (by omega) (fun q => q) (S j hj)) x3)
      refine ⟨v9', v10', z', gs', h', ?_, GY_t X6 e2 (by omega) (fun _ _ q => q) (fun _ _ q => q), e3⟩
      rw [e_X1_shift_101, c1]
      refine Eq.trans (e_X1_shift_120 ..) ?_
      rw [if_pos (in4 (by omega)), cln (by omega), o1, x1]
      refine Eq.trans (e_X1_shift_132 ..) ?_
      rw [if_pos (in4 (by omega)), cln (by omega), ii_s]
      exact e1
    rw [e_X1_shift_63, if_neg (fun q => by have := (ii_le (by omega)).mp q; omega), ii_add]
    cases sl with
    | true =>
      rw [if_pos rfl]
      by_cases q : i < 2 ^ k
      · rw [if_pos (show iI ((i : Int) + -(2 ^ k)) < 0 from (ii_lt (b := 0) (by omega)).mpr (by omega)), e_X1_shift_99]
        exact go fl _ (Lm_f M (fun x => by unfold mvB; rw [if_pos rfl, if_pos q]))
      · have es : (i : Int) + -(2 ^ k) = ((i - 2 ^ k : Nat) : Int) := by omega
        obtain ⟨lm, m1, m2⟩ := R (i - 2 ^ k) (by omega)
        rw [es, if_neg (show ¬ iI ((i - 2 ^ k : Nat) : Int) < 0 from fun e => by have := (ii_lt (b := 0) (by omega)).mp e; omega), if_neg (fun e => by have := (ii_le (by omega)).mp e; omega), if_pos (in4 (by omega)), cln (by omega), m1]
        exact go lm _ (Lm_f m2 (fun x => by unfold mvB; rw [if_pos rfl, if_neg q]))
    | false =>
      rw [if_neg (c := false = true) (by decide)]
      have es : (i : Int) + 2 ^ k = ((i + 2 ^ k : Nat) : Int) := by omega
      rw [es, if_neg (show ¬ iI ((i + 2 ^ k : Nat) : Int) < 0 from fun e => by have := (ii_lt (b := 0) (by omega)).mp e; omega)]
      by_cases q : i + 2 ^ k < w
      · obtain ⟨lm, m1, m2⟩ := R (i + 2 ^ k) q
        rw [if_neg (fun e => by have := (ii_le (by omega)).mp e; omega), if_pos (in4 (by omega)), cln (by omega), m1]
        exact go lm _ (Lm_f m2 (fun x => by unfold mvB; rw [if_neg (by decide), if_pos q]))
      · rw [if_pos ((ii_le (by omega)).mpr (by omega)), e_X1_shift_99]
        exact go fl _ (Lm_f M (fun x => by unfold mvB; rw [if_neg (by decide), if_neg q]))
theorem X1_shift_32 {wd ta tb w fl : Nat} {f g : Nat → Int → Bool} {fi : Int → Bool} (hwd : 1029 ≤ wd ∧ wd ≤ 1031) (w4 : w ≤ 4) : ∀ (d k z : Nat) (gs : Nat → Gt) (h : mx_H) (v7 v8 v9 v10 : Value), k + d = w → z + d * w ≤ 1065 → GtC z gs h.1 → GW z gs → Cx n b ts h → Lm z gs Q fl fi → Opd z gs Q h b (iI (tb : Int)) w g → AR z gs Q h 30 w (shB (decide (wd = 1029)) w f g fi k) → (1 ≤ k → AR z gs Q h 32 w (shB (decide (wd = 1029)) w f g fi k)) → Gv (d * w) TR z gs h (fun z' gs' h' => 1 ≤ w → AR z' gs' Q h' 32 w (shB (decide (wd = 1029)) w f g fi w)) (mx_D (4, mm_X1_shift, 32, [.ref 28, mx_rf (some wd), .int (iI ((ta : Int))), .int (iI ((tb : Int))), .int (iI ((w : Int))), .int (iI ((fl : Int))), .int (iI ((k : Int))), v7, v8, v9, v10], []) h) := by
  have wr : mx_wr (mx_rf (some wd)) = true := decide_eq_true (p := 1000 ≤ wd ∧ wd < 1042) (by omega)
  intro d
  induction d with
  | zero =>
    intro k z gs h v7 v8 v9 v10 hk hz G W C M B L S
    rw [e_X1_shift_32 (hq0 := wr), if_pos ((ii_le (by omega)).mpr (by omega))]
    have : k = w := by omega
    rw [this] at S
    exact ⟨z, gs, h, rfl, GY_r G W, S⟩
  | succ d ih =>
    intro k z gs h v7 v8 v9 v10 hk hz G W C M B L S
    have em : (d + 1) * w = w + d * w := by rw [Nat.add_mul, Nat.one_mul, Nat.add_comm]
    rw [em] at hz ⊢
    obtain ⟨v9', v10', z1, gs1, h1, a1, a2, a3⟩ := X1_shift_63 (o := some wd) (ta := ta) (sl := decide (wd = 1029)) w4 (show k < w by omega) w 0 z gs h v9 v10 (by omega) (by omega) G W C M B L (fun j hj => by omega)
    have zb := a2.2.2.2.1
    obtain ⟨h2, b1, b2, b3⟩ := X1_shift_142 (o := some wd) (ta := ta) (tb := tb) (fl := fl) (k := k) (v7 := iI (if decide (wd = 1029) = true then -(2 ^ k) else 2 ^ k)) (v9 := v9') (v10 := v10') w4 w 0 h1 (by omega) a2.1 a2.2.1 a3 (fun j hj => by omega)
    have Y : GY w TR z gs h z1 gs1 h2 := GY_t a2 b2 (by omega) (TA_R (by decide)) (TA_R (by decide))
    obtain ⟨z3, gs3, h3, k1, k2, k3⟩ := ih (k + 1) z1 gs1 h2 (.int (iI (if decide (wd = 1029) = true then -(2 ^ k) else 2 ^ k))) (.int (iI ((w : Int)))) v9' v10' (by omega) (by omega) b2.1 b2.2.1 (Cx_y Y TR_29 C) (Lm_y W Y M) (opd_y W Y (fun t k _ _ => nR (fun a k q => q.1) t k) B) b3 (fun _ => AR_y a2.2.1 b2 (by decide) (fun k (q : 32 = 30) => by omega) a3)
    refine ⟨z3, gs3, h3, ?_, GY_t Y k2 (by omega) (fun _ _ q => q) (fun _ _ q => q), k3⟩
    have sh : (1 : Int32) <<< (iI (k : Int) &&& 31) = iI (2 ^ k) := by rw [show (1 : Int32) = iI 1 from rfl, show (31 : Int32) = iI 31 from rfl, ii_1l (by omega), Int.toNat_natCast]
    rw [e_X1_shift_32 (hq0 := wr), if_neg (fun q => by have := (ii_le (by omega)).mp q; omega), sh, ii_neg]
    by_cases q : wd = 1029
    · have qd : decide (wd = 1029) = true := decide_eq_true q
      rw [qd, if_pos rfl] at a1 b1 k1
      rw [if_pos (c := mx_rf (some wd) = .ref 1029) (wdE.mpr q), e_X1_shift_58]
      exact Eq.trans a1 (Eq.trans b1 k1)
    · have qd : decide (wd = 1029) = false := decide_eq_false q
      rw [qd, if_neg (by decide)] at a1 b1 k1
      rw [if_neg (c := mx_rf (some wd) = .ref 1029) (fun e => q (wdE.mp e)), e_X1_shift_58]
      exact Eq.trans a1 (Eq.trans b1 k1)
theorem X1_shift_c {wd ta tb w : Nat} {f g : Nat → Int → Bool} (hwd : 1029 ≤ wd ∧ wd ≤ 1031) (w1 : 1 ≤ w) (w4 : w ≤ 4) (hz : z + w * w ≤ 1065) (G : GtC z gs h.1) (W : GW z gs) (C : Cx n b ts h) (A : Opd z gs Q h b (iI (ta : Int)) w f) (B : Opd z gs Q h b (iI (tb : Int)) w g) : Gv (w * w) TR z gs h (fun z' gs' h' => AR z' gs' Q h' 32 w (shB (decide (wd = 1029)) w f g (fun x => if wd = 1031 then f (w - 1) x else false) w)) (mx_C mm_X1_shift [.ref 28, mx_rf (some wd), .int (iI ((ta : Int))), .int (iI ((tb : Int))), .int (iI ((w : Int)))] h) := by
  have wr : mx_wr (mx_rf (some wd)) = true := decide_eq_true (p := 1000 ≤ wd ∧ wd < 1042) (by omega)
  have go : ∀ fl : Nat, Lm z gs Q fl (fun x => if wd = 1031 then f (w - 1) x else false) → Gv (w * w) TR z gs h (fun z' gs' h' => AR z' gs' Q h' 32 w (shB (decide (wd = 1029)) w f g (fun x => if wd = 1031 then f (w - 1) x else false) w)) (mx_D (4, mm_X1_shift, 20, [.ref 28, mx_rf (some wd), .int (iI ((ta : Int))), .int (iI ((tb : Int))), .int (iI ((w : Int))), mx_junk, mx_junk, mx_junk, mx_junk, mx_junk, mx_junk], [.int (iI ((fl : Int)))]) h) := by
    intro fl M
    obtain ⟨z1, gs1, h1, e1, e2, e3⟩ := X1_loadLeft_c w4 G W C A
    have zb := e2.2.2.2.1
    obtain ⟨z2, gs2, h2, k1, k2, k3⟩ := X1_shift_32 (ta := ta) (f := f) (g := g) hwd w4 w 0 z1 gs1 h1 mx_junk mx_junk mx_junk mx_junk (by omega) (by omega) e2.1 e2.2.1 (Cx_y e2 (TA_29 (by decide)) C) (Lm_y W e2 M) (opd_y W e2 (fun t k _ _ => n29 (by decide) t k) B) e3 (fun q => by omega)
    refine ⟨z2, gs2, h2, ?_, GY_t e2 k2 (by omega) (TA_R (by decide)) (fun _ _ q => q), k3 w1⟩
    rw [e_X1_shift_20, e1]
    exact Eq.trans (e_X1_shift_29 ..) k1
  rw [c_X1_shift, e_X1_shift_0 (hq0 := wr)]
  by_cases q : wd = 1031
  · obtain ⟨l, p1, p2⟩ := opd_l G C A (show w - 1 < w by omega) (by omega)
    rw [if_pos (c := mx_rf (some wd) = .ref 1031) (wdE.mpr q), ii_top w1, p1]
    refine Eq.subst (motive := fun X => Gv (w * w) TR z gs h _ X) (e_X1_shift_16 ..).symm ?_
    exact go l (Lm_f p2 (fun x => by rw [if_pos q]))
  · rw [if_neg (c := mx_rf (some wd) = .ref 1031) (fun e => q (wdE.mp e))]
    exact go 1 (Lm_f (Lm_1 G.2.1) (fun x => by rw [if_neg q]))
/-- the last loop of calculate: sum goes to the term -/
theorem X1_calculate_191 {o : Option Nat} {ta tb w : Nat} {F : Nat → Int → Bool} (w4 : w ≤ 4) : ∀ (d i : Nat) (h : mx_H), i + d = w → GtC z gs h.1 → GW z gs → Cx n b ts h → AR z gs Q h 32 w F → (∀ j, j < i → CL z gs Q h 29 (8 * b + j) (F j)) → Gv 0 (T9 b) z gs h (fun z' gs' h' => ∀ j, j < w → CL z' gs' Q h' 29 (8 * b + j) (F j)) (mx_D (13, mm_X1_calculate, 191, [.ref 28, mx_rf o, .int (iI ((ta : Int))), .int (iI ((tb : Int))), .int (iI ((w : Int))), .int (iI ((i : Int)))], []) h) := by
  intro d
  induction d with
  | zero =>
    intro i h hi G W C L R
    rw [e_X1_calculate_191, if_pos ((ii_le (by omega)).mpr (by omega))]
    exact ⟨z, gs, h, rfl, GY_r G W, fun j hj => R j (by omega)⟩
  | succ d ih =>
    intro i h hi G W C L R
    obtain ⟨l, p1, p2⟩ := L i (by omega)
    have Y : GY 0 (T9 b) z gs h z gs (mx_u h.1 29 (8 * b + i) (iI (l : Int)), h.2.1, h.2.2) := GY_u G W (by decide) ⟨rfl, by omega⟩
    obtain ⟨z3, gs3, h3, k1, k2, k3⟩ := ih (i + 1) _ (by omega) Y.1 W (Cx_y Y T9_29 C) (AR_y W Y (by decide) (fun k q => by have := q.1; omega) L) (CL_set (v := 0) R p2)
    refine ⟨z3, gs3, h3, ?_, GY_t Y k2 (by omega) (fun _ _ q => q) (fun _ _ q => q), k3⟩
    rw [e_X1_calculate_191, if_neg (fun q => by have := (ii_le (by omega)).mp q; omega), if_pos (in4 (by omega)), cln (by omega), p1, X1_set_c C (by omega)]
    refine Eq.trans (e_X1_calculate_211 ..) ?_
    rw [ii_s]
    exact k1
end CR
