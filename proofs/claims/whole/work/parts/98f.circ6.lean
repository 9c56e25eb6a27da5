/-! the class's circuits: multiply, divide, shift -/
def mrB (a c : Nat → Int → Bool) (k : Nat) (i : Nat) (x : Int) : Bool := if i < k then false else a (i - k) x && c k x
def mlB (a c : Nat → Int → Bool) : Nat → Nat → Int → Bool
  | 0, _, _ => false
  | k + 1, i, x => smB (mlB a c k) (mrB a c k) false i x
section CT
variable {z : Nat} {gs : Nat → Gt} {h : mx_H} {Q : (Nat → Prop) → Prop} {n b : Nat} {ts : Nat → Tm}
theorem nR {T : Nat → Nat → Prop} (hT : ∀ a k, T a k → 30 ≤ a) : ∀ t k, ¬ T 29 (8 * t + k) := fun t k q => by have := hT _ _ q; omega
theorem X1_multiply_18 {ta tb w k : Nat} {f g : Nat → Int → Bool} (w4 : w ≤ 4) (kw : k < w) (X : Option mx_O) (P : Nat → (Nat → Gt) → mx_H → Prop) (m0 : Nat) (z0 : Nat) (gs0 : Nat → Gt) (h0 : mx_H) (end' : ∀ (z : Nat) (gs : Nat → Gt) (h : mx_H), GY (m0 + w) TR z0 gs0 h0 z gs h → AR z gs Q h 31 w (mrB f g k) → AR z gs Q h 30 w (mlB f g k) → X = (mx_C mm_X1_add [.ref 28, .int (iI ((w : Int))), .int 1] h).bind (fun o => mx_D (5, mm_X1_multiply, 78, [.ref 28, .int (iI ((ta : Int))), .int (iI ((tb : Int))), .int (iI ((w : Int))), .int (iI ((k : Int))), .int (iI ((w : Int)))], o.1.toList ++ []) o.2) → ∃ z' gs' h', X = some (none, h') ∧ P z' gs' h') : ∀ (d i z : Nat) (gs : Nat → Gt) (h : mx_H), i + d = w → z + d ≤ 1065 → GY (m0 + i) TR z0 gs0 h0 z gs h → Cx n b ts h → Opd z gs Q h b (iI (ta : Int)) w f → Opd z gs Q h b (iI (tb : Int)) w g → AR z gs Q h 30 w (mlB f g k) → AR z gs Q h 31 i (mrB f g k) → X = mx_D (5, mm_X1_multiply, 18, [.ref 28, .int (iI ((ta : Int))), .int (iI ((tb : Int))), .int (iI ((w : Int))), .int (iI ((k : Int))), .int (iI ((i : Int)))], []) h → ∃ z' gs' h', X = some (none, h') ∧ P z' gs' h' := by
  intro d
  induction d with
  | zero =>
    intro i z gs h hi hz Y0 C A B L R hX
    have iw : i = w := by omega
    rw [iw] at Y0 R hX
    refine end' z gs h Y0 R L ?_
    rw [hX, e_X1_multiply_18, if_pos ((ii_le (by omega)).mpr (by omega))]
  | succ d ih =>
    intro i z gs h hi hz Y0 C A B L R hX
    have G := Y0.1
    have W := Y0.2.1
    have go : ∀ (r z1 : Nat) (gs1 : Nat → Gt) (h1 : mx_H), GX 1 z gs h z1 gs1 h1 → Lm z1 gs1 Q r (mrB f g k i) → X = mx_D (5, mm_X1_multiply, 65, [.ref 28, .int (iI ((ta : Int))), .int (iI ((tb : Int))), .int (iI ((w : Int))), .int (iI ((k : Int))), .int (iI ((i : Int)))], [.int (iI ((r : Int))), .int (iI ((i : Int))), .ref 31]) h1 → ∃ z' gs' h', X = some (none, h') ∧ P z' gs' h' := by
      intro r z1 gs1 h1 x2 M hX
      have X2 : GY 1 (TA 31) z gs h z1 gs1 h1 := GY_g x2
      have X5 : GY 0 (TA 31) z1 gs1 h1 z1 gs1 (mx_u h1.1 31 i (iI (r : Int)), h1.2.1, h1.2.2) := GY_u X2.1 X2.2.1 (by decide) rfl
      have X6 := GY_t (m'' := 1) (T'' := TA 31) X2 X5 (by omega) (fun _ _ q => q) (fun _ _ q => q)
      have zb := X6.2.2.2.1
      refine ih (i + 1) z1 gs1 _ (by omega) (by omega) (GY_t Y0 X6 (by omega) (fun _ _ q => q) (TA_R (by decide))) (Cx_y X6 (TA_29 (by decide)) C) (opd_y W X6 (fun t k _ _ => n29 (by decide) t k) A) (opd_y W X6 (fun t k _ _ => n29 (by decide) t k) B) (AR_y W X6 (by decide) (fun k (q : 30 = 31) => by omega) L) (AR_u (fun j hj => CL_y W (GY_g (T := fun _ _ => False) x2) (by omega) (fun q => q) (R j hj)) M) ?_
      rw [hX, e_X1_multiply_65, if_pos (in4 (by omega)), cln (by omega), ii_s]
    rw [e_X1_multiply_18, if_neg (fun q => by have := (ii_le (by omega)).mp q; omega)] at hX
    by_cases q : i < k
    · rw [if_neg (fun q => by have := (ii_le (by omega)).mp q; omega)] at hX
      exact go 1 z gs h (GX_r G W) (Lm_f (Lm_1 G.2.1) (fun x => by unfold mrB; rw [if_pos q])) hX
    · obtain ⟨la, p1, p2⟩ := opd_l G C A (show i - k < w by omega) (by omega)
      obtain ⟨lb, q1, q2⟩ := opd_l G C B kw (by omega)
      obtain ⟨r1, z1, gs1, h1, x1, x2, x3⟩ := and_m G W (by omega) p2 q2
      have es : iI (i : Int) - iI (k : Int) = iI ((i - k : Nat) : Int) := by rw [ii_sub]; congr 1; omega
      rw [if_pos ((ii_le (by omega)).mpr (by omega)), es, p1] at hX
      have hX := Eq.trans hX (e_X1_multiply_55 ..)
      rw [q1] at hX
      have hX := Eq.trans hX (e_X1_multiply_62 ..)
      dsimp only at hX
      rw [x1] at hX
      exact go r1 z1 gs1 h1 x2 (Lm_f x3 (fun x => by unfold mrB; rw [if_neg q])) hX
/-- sum goes to left: multiply and shift -/
theorem copy_82 {ta tb w k : Nat} {v5 : Value} {F : Nat → Int → Bool} (w4 : w ≤ 4) : ∀ (d i : Nat) (h : mx_H), i + d = w → GtC z gs h.1 → GW z gs → AR z gs Q h 32 w F → AR z gs Q h 30 i F → ∃ h', mx_D (5, mm_X1_multiply, 82, [.ref 28, .int (iI ((ta : Int))), .int (iI ((tb : Int))), .int (iI ((w : Int))), .int (iI ((k : Int))), .int (iI ((i : Int)))], []) h = mx_D (5, mm_X1_multiply, 9, [.ref 28, .int (iI ((ta : Int))), .int (iI ((tb : Int))), .int (iI ((w : Int))), .int (iI (((k + 1 : Nat) : Int))), .int (iI ((w : Int)))], []) h' ∧ GY 0 (TA 30) z gs h z gs h' ∧ AR z gs Q h' 30 w F := by
  intro d
  induction d with
  | zero =>
    intro i h hi G W S L
    have iw : i = w := by omega
    rw [iw] at L ⊢
    refine ⟨h, ?_, GY_r G W, L⟩
    rw [e_X1_multiply_82, if_pos ((ii_le (by omega)).mpr (by omega)), ii_s]
  | succ d ih =>
    intro i h hi G W S L
    obtain ⟨l, p1, p2⟩ := S i (by omega)
    have Y : GY 0 (TA 30) z gs h z gs (mx_u h.1 30 i (iI (l : Int)), h.2.1, h.2.2) := GY_u G W (by decide) rfl
    obtain ⟨h3, k1, k2, k3⟩ := ih (i + 1) _ (by omega) Y.1 W (AR_y W Y (by decide) (fun k (q : 32 = 30) => by omega) S) (AR_u L p2)
    refine ⟨h3, ?_, GY_t Y k2 (by omega) (fun _ _ q => q) (fun _ _ q => q), k3⟩
    rw [e_X1_multiply_82, if_neg (fun q => by have := (ii_le (by omega)).mp q; omega), if_pos (in4 (by omega)), if_pos (in4 (by omega)), cln (by omega), p1, ii_s]
    exact k1
theorem X1_multiply_9 {ta tb w : Nat} {f g : Nat → Int → Bool} (w4 : w ≤ 4) : ∀ (d k z : Nat) (gs : Nat → Gt) (h : mx_H) (v5 : Value), k + d = w → z + d * (4 * w) ≤ 1065 → GtC z gs h.1 → GW z gs → Cx n b ts h → Opd z gs Q h b (iI (ta : Int)) w f → Opd z gs Q h b (iI (tb : Int)) w g → AR z gs Q h 30 w (mlB f g k) → (1 ≤ k → AR z gs Q h 32 w (mlB f g k)) → Gv (d * (4 * w)) TR z gs h (fun z' gs' h' => 1 ≤ w → AR z' gs' Q h' 32 w (mlB f g w)) (mx_D (5, mm_X1_multiply, 9, [.ref 28, .int (iI ((ta : Int))), .int (iI ((tb : Int))), .int (iI ((w : Int))), .int (iI ((k : Int))), v5], []) h) := by
  intro d
  induction d with
  | zero =>
    intro k z gs h v5 hk hz G W C A B L S
    rw [e_X1_multiply_9, if_pos ((ii_le (by omega)).mpr (by omega))]
    have : w = k := by omega
    rw [this] at S ⊢
    exact ⟨z, gs, h, rfl, GY_r G W, S⟩
  | succ d ih =>
    intro k z gs h v5 hk hz G W C A B L S
    have em : (d + 1) * (4 * w) = 4 * w + d * (4 * w) := by rw [Nat.add_mul, Nat.one_mul, Nat.add_comm]
    rw [em] at hz ⊢
    rw [e_X1_multiply_9, if_neg (fun q => by have := (ii_le (by omega)).mp q; omega)]
    obtain ⟨z', gs', h', r1, r2⟩ := X1_multiply_18 (Q := Q) (n := n) (b := b) (ts := ts) (ta := ta) (tb := tb) (f := f) (g := g) w4 (show k < w by omega) _ (fun z' gs' h' => GY (4 * w + d * (4 * w)) TR z gs h z' gs' h' ∧ (1 ≤ w → AR z' gs' Q h' 32 w (mlB f g w))) 0 z gs h (fun z1 gs1 h1 Y1 R1 L1 hX => by
      have zb := Y1.2.2.2.1
      have A1 := opd_y W Y1 (fun t k _ _ => nR (fun a k q => q.1) t k) A
      have B1 := opd_y W Y1 (fun t k _ _ => nR (fun a k q => q.1) t k) B
      obtain ⟨r, z2, gs2, h2, s1, s2, s3, s4⟩ := X1_add_c (c := false) w4 (by omega) Y1.1 Y1.2.1 L1 R1
      have zb2 := s2.2.2.2.1
      have A2 := opd_y Y1.2.1 s2 (fun t k _ _ => n29 (by decide) t k) A1
      have B2 := opd_y Y1.2.1 s2 (fun t k _ _ => n29 (by decide) t k) B1
      obtain ⟨h3, c1, c2, c3⟩ := copy_82 (ta := ta) (tb := tb) (k := k) (v5 := mx_junk) w4 w 0 h2 (by omega) s2.1 s2.2.1 s4 (fun j hj => by omega)
      have C3 := Cx_y c2 (TA_29 (by decide)) (Cx_y s2 (TA_29 (by decide)) (Cx_y Y1 TR_29 C))
      obtain ⟨z4, gs4, h4, k1, k2, k3⟩ := ih (k + 1) z2 gs2 h3 (.int (iI ((w : Int)))) (by omega) (by omega) c2.1 c2.2.1 C3 (opd_y s2.2.1 c2 (fun t k _ _ => n29 (by decide) t k) A2) (opd_y s2.2.1 c2 (fun t k _ _ => n29 (by decide) t k) B2) c3 (fun _ => AR_y s2.2.1 c2 (by decide) (fun k (q : 32 = 30) => by omega) s4)
      refine ⟨z4, gs4, h4, ?_, GY_t (m := 4 * w) (GY_t (m := w + 3 * w) (GY_t Y1 s2 (by omega) (fun _ _ q => q) (TA_R (by decide))) c2 (by omega) (fun _ _ q => q) (TA_R (by decide))) k2 (by omega) (fun _ _ q => q) (fun _ _ q => q), k3⟩
      rw [hX, show (1 : Int32) = bI (!false) from rfl, s1]
      refine Eq.trans (e_X1_multiply_78 ..) ?_
      exact Eq.trans c1 k1) w 0 z gs h (by omega) (by omega) (GY_r G W) C A B L (fun j hj => by omega) rfl
    exact ⟨z', gs', h', r1, r2⟩
theorem X1_multiply_c {ta tb w : Nat} {f g : Nat → Int → Bool} (w4 : w ≤ 4) (hz : z + w * (4 * w) ≤ 1065) (G : GtC z gs h.1) (W : GW z gs) (C : Cx n b ts h) (A : Opd z gs Q h b (iI (ta : Int)) w f) (B : Opd z gs Q h b (iI (tb : Int)) w g) : Gv (w * (4 * w)) TR z gs h (fun z' gs' h' => 1 ≤ w → AR z' gs' Q h' 32 w (mlB f g w)) (mx_C mm_X1_multiply [.ref 28, .int (iI ((ta : Int))), .int (iI ((tb : Int))), .int (iI ((w : Int)))] h) := by
  obtain ⟨z1, gs1, h1, e1, e2, e3⟩ := X1_loadLeft_c (v := -1) (F := fun _ _ => false) w4 G W C (Or.inl ⟨rfl, rfl⟩)
  have zb := e2.2.2.2.1
  obtain ⟨z2, gs2, h2, k1, k2, k3⟩ := X1_multiply_9 (f := f) (g := g) w4 w 0 z1 gs1 h1 mx_junk (by omega) (by omega) e2.1 e2.2.1 (Cx_y e2 (TA_29 (by decide)) C) (opd_y W e2 (fun t k _ _ => n29 (by decide) t k) A) (opd_y W e2 (fun t k _ _ => n29 (by decide) t k) B) e3 (fun q => by omega)
  refine ⟨z2, gs2, h2, ?_, GY_t e2 k2 (by omega) (TA_R (by decide)) (fun _ _ q => q), k3⟩
  rw [c_X1_multiply, e_X1_multiply_0, e1]
  exact Eq.trans (e_X1_multiply_6 ..) k1
end CT
