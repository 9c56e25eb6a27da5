/-! the class's circuits: words that are loaded and added -/
def TR : Nat → Nat → Prop := fun a _ => 30 ≤ a ∧ a ≤ 32
def TA (c : Nat) : Nat → Nat → Prop := fun a _ => a = c
/-- the bits of a term, or of none -/
def Opd (z : Nat) (gs : Nat → Gt) (Q : (Nat → Prop) → Prop) (h : mx_H) (b : Nat) (v : Int32) (w : Nat) (F : Nat → Int → Bool) : Prop := (v = -1 ∧ F = fun _ _ => false) ∨ ∃ t : Nat, t < b ∧ v = iI (t : Int) ∧ ∀ k, k < w → CL z gs Q h 29 (8 * t + k) (F k)
def AR (z : Nat) (gs : Nat → Gt) (Q : (Nat → Prop) → Prop) (h : mx_H) (a w : Nat) (F : Nat → Int → Bool) : Prop := ∀ i, i < w → CL z gs Q h a i (F i)
section CU
variable {z : Nat} {gs : Nat → Gt} {h : mx_H} {Q : (Nat → Prop) → Prop} {n b : Nat} {ts : Nat → Tm}
theorem TA_29 {c : Nat} (hc : 29 ≤ c) : ∀ a k, TA c a k → 29 ≤ a := fun a k q => by have : a = c := q; omega
theorem TR_29 : ∀ a k, TR a k → 29 ≤ a := fun a k q => by have := q.1; omega
theorem TA_R {c : Nat} (hc : 30 ≤ c ∧ c ≤ 32) : ∀ a k, TA c a k → TR a k := fun a k q => by have : a = c := q; exact ⟨by omega, by omega⟩
theorem opd_l {v : Int32} {w i : Nat} {F : Nat → Int → Bool} (G : GtC z gs h.1) (C : Cx n b ts h) (O : Opd z gs Q h b v w F) (hi : i < w) (w8 : w ≤ 8) : ∃ l : Nat, mx_C mm_X1_bitOf [.ref 28, .int v, .int (iI ((i : Int)))] h = some (some (.int (iI ((l : Int)))), h) ∧ Lm z gs Q l (F i) := by
  rcases O with ⟨e1, e2⟩ | ⟨t, t1, t2, t3⟩
  · exact ⟨1, by rw [e1, X1_bitOf_n (by omega)], by rw [e2]; exact Lm_1 G.2.1⟩
  · rw [t2]; exact bit_l C t1 (by omega) (t3 i hi)
theorem opd_y {m : Nat} {T : Nat → Nat → Prop} {z' : Nat} {gs' : Nat → Gt} {h' : mx_H} {v : Int32} {w : Nat} {F : Nat → Int → Bool} (W : GW z gs) (X : GY m T z gs h z' gs' h') (hT : ∀ t k, t < b → k < w → ¬ T 29 (8 * t + k)) (O : Opd z gs Q h b v w F) : Opd z' gs' Q h' b v w F := by
  rcases O with q | ⟨t, t1, t2, t3⟩
  · exact Or.inl q
  · exact Or.inr ⟨t, t1, t2, fun k hk => CL_y W X (by omega) (hT t k t1 hk) (t3 k hk)⟩
theorem AR_y {m : Nat} {T : Nat → Nat → Prop} {z' : Nat} {gs' : Nat → Gt} {h' : mx_H} {a w : Nat} {F : Nat → Int → Bool} (W : GW z gs) (X : GY m T z gs h z' gs' h') (ha : 27 ≤ a) (hT : ∀ k, ¬ T a k) (R : AR z gs Q h a w F) : AR z' gs' Q h' a w F := fun i hi => CL_y W X ha (hT i) (R i hi)
theorem AR_u {a i r : Nat} {F : Nat → Int → Bool} (R : AR z gs Q h a i F) (M : Lm z gs Q r (F i)) : AR z gs Q (mx_u h.1 a i (iI (r : Int)), h.2.1, h.2.2) a (i + 1) F := by
  intro j hj
  by_cases e : j = i
  · rw [e]; exact CL_n M
  · obtain ⟨l, u1, u2⟩ := R j (by omega)
    exact ⟨l, by dsimp only; rw [mu_k _ _ e]; exact u1, u2⟩
theorem in4 {i : Nat} (h : i < 4) : mx_in (iI (i : Int)) 4 = true := of_eq_true (ii_in (by omega))
theorem cln {i : Nat} (h : i < 65536) : (iI (i : Int)).toNatClampNeg = i := by rw [ii_cl (by omega)]; omega
theorem n29 {c : Nat} (hc : 30 ≤ c) : ∀ t k, ¬ TA c 29 (8 * t + k) := fun t k (q : 29 = c) => by omega
theorem X1_loadLeft_2 {v : Int32} {w : Nat} {F : Nat → Int → Bool} (w4 : w ≤ 4) : ∀ (d i : Nat) (h : mx_H), i + d = w → GtC z gs h.1 → GW z gs → Cx n b ts h → Opd z gs Q h b v w F → AR z gs Q h 30 i F → Gv 0 (TA 30) z gs h (fun z' gs' h' => AR z' gs' Q h' 30 w F) (mx_D (2, mm_X1_loadLeft, 2, [.ref 28, .int v, .int (iI ((w : Int))), .int (iI ((i : Int)))], []) h) := by
  intro d
  induction d with
  | zero =>
    intro i h hi G W C O R
    rw [e_X1_loadLeft_2, if_pos ((ii_le (by omega)).mpr (by omega))]
    exact ⟨z, gs, h, rfl, GY_r G W, fun j hj => R j (by omega)⟩
  | succ d ih =>
    intro i h hi G W C O R
    obtain ⟨l, p1, p2⟩ := opd_l G C O (show i < w by omega) (by omega)
    have Y : GY 0 (TA 30) z gs h z gs (mx_u h.1 30 i (iI (l : Int)), h.2.1, h.2.2) := GY_u G W (by decide) rfl
    obtain ⟨z3, gs3, h3, k1, k2, k3⟩ := ih (i + 1) _ (by omega) Y.1 W (Cx_y Y (TA_29 (by decide)) C) (opd_y W Y (fun t k _ _ => n29 (by decide) t k) O) (AR_u R p2)
    refine ⟨z3, gs3, h3, ?_, GY_t Y k2 (by omega) (fun _ _ q => q) (fun _ _ q => q), k3⟩
    rw [e_X1_loadLeft_2, if_neg (fun q => by have := (ii_le (by omega)).mp q; omega), p1]
    refine Eq.trans (e_X1_loadLeft_18 ..) ?_
    rw [if_pos (in4 (by omega)), cln (by omega), ii_s]
    exact k1
theorem X1_loadLeft_c {v : Int32} {w : Nat} {F : Nat → Int → Bool} (w4 : w ≤ 4) (G : GtC z gs h.1) (W : GW z gs) (C : Cx n b ts h) (O : Opd z gs Q h b v w F) : Gv 0 (TA 30) z gs h (fun z' gs' h' => AR z' gs' Q h' 30 w F) (mx_C mm_X1_loadLeft [.ref 28, .int v, .int (iI ((w : Int)))] h) := by
  rw [c_X1_loadLeft, e_X1_loadLeft_0]
  exact X1_loadLeft_2 w4 w 0 h (by omega) G W C O (fun j hj => by omega)
theorem X1_loadRight_3 {v : Int32} {w : Nat} {tu : Bool} {F : Nat → Int → Bool} (w4 : w ≤ 4) : ∀ (d i : Nat) (h : mx_H), i + d = w → GtC z gs h.1 → GW z gs → Cx n b ts h → Opd z gs Q h b v w F → AR z gs Q h 31 i (fun i x => (F i x).xor tu) → Gv 0 (TA 31) z gs h (fun z' gs' h' => AR z' gs' Q h' 31 w (fun i x => (F i x).xor tu)) (mx_D (2, mm_X1_loadRight, 3, [.ref 28, .int v, .int (iI ((w : Int))), .int (bI tu), .int (iI ((i : Int)))], []) h) := by
  intro d
  induction d with
  | zero =>
    intro i h hi G W C O R
    rw [e_X1_loadRight_3, if_pos ((ii_le (by omega)).mpr (by omega))]
    exact ⟨z, gs, h, rfl, GY_r G W, fun j hj => R j (by omega)⟩
  | succ d ih =>
    intro i h hi G W C O R
    obtain ⟨l, p1, p2⟩ := opd_l G C O (show i < w by omega) (by omega)
    have go : ∀ r : Nat, Lm z gs Q r (fun x => (F i x).xor tu) → Gv 0 (TA 31) z gs h (fun z' gs' h' => AR z' gs' Q h' 31 w (fun i x => (F i x).xor tu)) (mx_D (2, mm_X1_loadRight, 38, [.ref 28, .int v, .int (iI ((w : Int))), .int (bI tu), .int (iI ((i : Int)))], [.int (iI ((r : Int))), .int (iI ((i : Int))), .ref 31]) h) := by
      intro r M
      have Y : GY 0 (TA 31) z gs h z gs (mx_u h.1 31 i (iI (r : Int)), h.2.1, h.2.2) := GY_u G W (by decide) rfl
      obtain ⟨z3, gs3, h3, k1, k2, k3⟩ := ih (i + 1) _ (by omega) Y.1 W (Cx_y Y (TA_29 (by decide)) C) (opd_y W Y (fun t k _ _ => n29 (by decide) t k) O) (AR_u R M)
      refine ⟨z3, gs3, h3, ?_, GY_t Y k2 (by omega) (fun _ _ q => q) (fun _ _ q => q), k3⟩
      rw [e_X1_loadRight_38, if_pos (in4 (by omega)), cln (by omega), ii_s]
      exact k1
    rw [e_X1_loadRight_3, if_neg (fun q => by have := (ii_le (by omega)).mp q; omega)]
    cases tu with
    | false =>
      rw [if_pos (show bI false = 0 from rfl), p1]
      exact go l (Lm_f p2 (fun x => by simp))
    | true =>
      rw [if_neg (show ¬ bI true = 0 by decide), p1]
      refine Eq.subst (motive := fun X => Gv 0 (TA 31) z gs h _ X) (e_X1_loadRight_26 ..).symm ?_
      rw [ii_ng (Lm_lt G p2)]
      exact go (ng l) (Lm_f (Lm_ng p2) (fun x => by simp))
theorem X1_loadRight_c {v : Int32} {w : Nat} {tu : Bool} {F : Nat → Int → Bool} (w4 : w ≤ 4) (G : GtC z gs h.1) (W : GW z gs) (C : Cx n b ts h) (O : Opd z gs Q h b v w F) : Gv 0 (TA 31) z gs h (fun z' gs' h' => AR z' gs' Q h' 31 w (fun i x => (F i x).xor tu)) (mx_C mm_X1_loadRight [.ref 28, .int v, .int (iI ((w : Int))), .int (bI tu)] h) := by
  rw [c_X1_loadRight, e_X1_loadRight_0]
  exact X1_loadRight_3 w4 w 0 h (by omega) G W C O (fun j hj => by omega)
/-- carries and sums -/
def cyB (l r : Nat → Int → Bool) (c : Bool) : Nat → Int → Bool
  | 0, _ => c
  | i + 1, x => if (l i x).xor (r i x) = true then cyB l r c i x else l i x
def smB (l r : Nat → Int → Bool) (c : Bool) (i : Nat) (x : Int) : Bool := ((l i x).xor (r i x)).xor (cyB l r c i x)
theorem X1_add_5 {w : Nat} {l r : Nat → Int → Bool} {c : Bool} {v2 : Int32} (w4 : w ≤ 4) : ∀ (d i z : Nat) (gs : Nat → Gt) (h : mx_H) (y : Nat) (v5 : Value), i + d = w → z + 3 * d ≤ 1065 → GtC z gs h.1 → GW z gs → AR z gs Q h 30 w l → AR z gs Q h 31 w r → AR z gs Q h 32 i (smB l r c) → Lm z gs Q y (cyB l r c i) → Gl (3 * d) (TA 32) z gs h Q (cyB l r c w) (fun z' gs' h' => AR z' gs' Q h' 32 w (smB l r c)) (mx_D (4, mm_X1_add, 5, [.ref 28, .int (iI ((w : Int))), .int v2, .int (iI ((y : Int))), .int (iI ((i : Int))), v5], []) h) := by
  intro d
  induction d with
  | zero =>
    intro i z gs h y v5 hi hz G W L R S M
    rw [e_X1_add_5, if_pos ((ii_le (by omega)).mpr (by omega))]
    exact ⟨y, z, gs, h, rfl, GY_r G W, by rw [show w = i by omega]; exact M, fun j hj => S j (by omega)⟩
  | succ d ih =>
    intro i z gs h y v5 hi hz G W L R S M
    obtain ⟨la, p1, p2⟩ := L i (by omega)
    obtain ⟨lb, q1, q2⟩ := R i (by omega)
    obtain ⟨r1, z1, gs1, h1, x1, x2, x3⟩ := xor_m G W (by omega) p2 q2
    have X2 : GY 1 (TA 32) z gs h z1 gs1 h1 := GY_g x2
    have zb1 := x2.2.2.2.1
    obtain ⟨r2, z2, gs2, h2, y1, y2, y3⟩ := xor_m x2.1 x2.2.1 (by omega) x3 (Lm_y W X2 M)
    have X3 : GY 1 (TA 32) z1 gs1 h1 z2 gs2 h2 := GY_g y2
    have X4 := GY_t (m'' := 2) (T'' := TA 32) X2 X3 (by omega) (fun _ _ q => q) (fun _ _ q => q)
    have zb2 := X4.2.2.2.1
    have X5 : GY 0 (TA 32) z2 gs2 h2 z2 gs2 (mx_u h2.1 32 i (iI (r2 : Int)), h2.2.1, h2.2.2) := GY_u X4.1 X4.2.1 (by decide) rfl
    have X6 := GY_t (m'' := 2) (T'' := TA 32) X4 X5 (by omega) (fun _ _ q => q) (fun _ _ q => q)
    have n30 : ∀ k, ¬ TA 32 30 k := fun k (q : 30 = 32) => by omega
    have n31 : ∀ k, ¬ TA 32 31 k := fun k (q : 31 = 32) => by omega
    obtain ⟨la', e1, e2⟩ := AR_y W X6 (by decide) n30 L i (by omega)
    obtain ⟨r3, z3, gs3, h3, s1, s2, s3⟩ := mux_m X6.1 X6.2.1 (by omega) (Lm_y X2.2.1 (GY_t (m'' := 1) (T'' := TA 32) X3 X5 (by omega) (fun _ _ q => q) (fun _ _ q => q)) x3) (Lm_y W X6 M) e2
    have X7 : GY 1 (TA 32) z2 gs2 _ z3 gs3 h3 := GY_g s2
    have X8 := GY_t (m'' := 3) (T'' := TA 32) X6 X7 (by omega) (fun _ _ q => q) (fun _ _ q => q)
    have zb3 := X8.2.2.2.1
    have S1 : AR z2 gs2 Q (mx_u h2.1 32 i (iI (r2 : Int)), h2.2.1, h2.2.2) 32 (i + 1) (smB l r c) := AR_u (fun j hj => CL_y x2.2.1 (GY_g (T := fun _ _ => False) y2) (by omega) (fun q => q) (CL_y W (GY_g (T := fun _ _ => False) x2) (by omega) (fun q => q) (S j hj))) y3
    obtain ⟨rr, z4, gs4, h4, k1, k2, k3, k4⟩ := ih (i + 1) z3 gs3 h3 r3 (.int (iI ((r1 : Int)))) (by omega) (by omega) X8.1 X8.2.1 (AR_y W X8 (by decide) n30 L) (AR_y W X8 (by decide) n31 R) (fun j hj => CL_y X6.2.1 (GY_g (T := fun _ _ => False) s2) (by omega) (fun q => q) (S1 j hj)) s3
    refine ⟨rr, z4, gs4, h4, ?_, GY_t X8 k2 (by omega) (fun _ _ q => q) (fun _ _ q => q), k3, k4⟩
    rw [e_X1_add_5, if_neg (fun q => by have := (ii_le (by omega)).mp q; omega), if_pos (in4 (by omega)), if_pos (in4 (by omega)), cln (by omega), p1, q1, x1]
    refine Eq.trans (e_X1_add_32 ..) ?_
    rw [y1]
    refine Eq.trans (e_X1_add_50 ..) ?_
    dsimp only at e1
    rw [if_pos (in4 (by omega)), if_pos (in4 (by omega)), cln (by omega), e1, s1]
    refine Eq.trans (e_X1_add_68 ..) ?_
    rw [ii_s]
    exact k1
theorem X1_add_c {w : Nat} {l r : Nat → Int → Bool} {c : Bool} (w4 : w ≤ 4) (hz : z + 3 * w ≤ 1065) (G : GtC z gs h.1) (W : GW z gs) (L : AR z gs Q h 30 w l) (R : AR z gs Q h 31 w r) : Gl (3 * w) (TA 32) z gs h Q (cyB l r c w) (fun z' gs' h' => AR z' gs' Q h' 32 w (smB l r c)) (mx_C mm_X1_add [.ref 28, .int (iI ((w : Int))), .int (bI (!c))] h) := by
  rw [c_X1_add, e_X1_add_0, show bI (!c) = iI ((if c = true then 0 else 1 : Nat) : Int) by cases c <;> rfl]
  exact X1_add_5 w4 w 0 z gs h _ _ (by omega) hz G W L R (fun j hj => by omega) (by cases c; exact Lm_1 G.2.1; exact Lm_0 G.2.1)
/-- and, or, xor, not, bit by bit: kinds 14, 15, 16, 12 -/
def mxB (k : Nat) (f g : Nat → Int → Bool) (i : Nat) (x : Int) : Bool := if k = 14 then f i x && g i x else if k = 15 then f i x || g i x else if k = 16 then (f i x).xor (g i x) else !(f i x)
theorem X1_mix_3 {k ta : Nat} {v3 : Int32} {w : Nat} {f g : Nat → Int → Bool} (hk : k = 14 ∨ k = 15 ∨ k = 16 ∨ k = 12) (w4 : w ≤ 4) : ∀ (d i z : Nat) (gs : Nat → Gt) (h : mx_H), i + d = w → z + d ≤ 1065 → GtC z gs h.1 → GW z gs → Cx n b ts h → Opd z gs Q h b (iI (ta : Int)) w f → (k ≠ 12 → Opd z gs Q h b v3 w g) → AR z gs Q h 32 i (mxB k f g) → Gv d (TA 32) z gs h (fun z' gs' h' => AR z' gs' Q h' 32 w (mxB k f g)) (mx_D (12, mm_X1_mix, 3, [.ref 28, mx_rf (some (1007 + k)), .int (iI ((ta : Int))), .int v3, .int (iI ((w : Int))), .int (iI ((i : Int)))], []) h) := by
  intro d
  induction d with
  | zero =>
    intro i z gs h hi hz G W C A B S
    have e : ∀ X, X = mx_D (12, mm_X1_mix, 3, [.ref 28, mx_rf (some (1007 + k)), .int (iI ((ta : Int))), .int v3, .int (iI ((w : Int))), .int (iI ((i : Int)))], []) h → X = some (none, h) := by
      intro X hX
      rw [hX]
      refine Eq.trans (e_X1_mix_3 (1007 + k) (by omega) ..) ?_
      rw [if_pos ((ii_le (by omega)).mpr (by omega))]
    exact ⟨z, gs, h, e _ rfl, GY_r G W, fun j hj => S j (by omega)⟩
  | succ d ih =>
    intro i z gs h hi hz G W C A B S
    obtain ⟨la, p1, p2⟩ := opd_l G C A (show i < w by omega) (by omega)
    have go : ∀ (r z1 : Nat) (gs1 : Nat → Gt) (h1 : mx_H), GX 1 z gs h z1 gs1 h1 → Lm z1 gs1 Q r (mxB k f g i) → ∀ X, X = mx_D (12, mm_X1_mix, 153, [.ref 28, mx_rf (some (1007 + k)), .int (iI ((ta : Int))), .int v3, .int (iI ((w : Int))), .int (iI ((i : Int)))], []) (mx_u h1.1 32 i (iI (r : Int)), h1.2.1, h1.2.2) → Gv (d + 1) (TA 32) z gs h (fun z' gs' h' => AR z' gs' Q h' 32 w (mxB k f g)) X := by
      intro r z1 gs1 h1 x2 M X hX
      have X2 : GY 1 (TA 32) z gs h z1 gs1 h1 := GY_g x2
      have X5 : GY 0 (TA 32) z1 gs1 h1 z1 gs1 (mx_u h1.1 32 i (iI (r : Int)), h1.2.1, h1.2.2) := GY_u X2.1 X2.2.1 (by decide) rfl
      have X6 := GY_t (m'' := 1) (T'' := TA 32) X2 X5 (by omega) (fun _ _ q => q) (fun _ _ q => q)
      have zb := X6.2.2.2.1
      obtain ⟨z4, gs4, h4, k1, k2, k3⟩ := ih (i + 1) z1 gs1 _ (by omega) (by omega) X6.1 X6.2.1 (Cx_y X6 (TA_29 (by decide)) C) (opd_y W X6 (fun t k _ _ => n29 (by decide) t k) A) (fun q => opd_y W X6 (fun t k _ _ => n29 (by decide) t k) (B q)) (AR_u (fun j hj => CL_y W (GY_g (T := fun _ _ => False) x2) (by omega) (fun q => q) (S j hj)) M)
      refine ⟨z4, gs4, h4, ?_, GY_t X6 k2 (by omega) (fun _ _ q => q) (fun _ _ q => q), k3⟩
      rw [hX, e_X1_mix_153, ii_s]
      exact k1
    have e0 : mx_D (12, mm_X1_mix, 3, [.ref 28, mx_rf (some (1007 + k)), .int (iI ((ta : Int))), .int v3, .int (iI ((w : Int))), .int (iI ((i : Int)))], []) h = mx_D (12, mm_X1_mix, 18, [.ref 28, mx_rf (some (1007 + k)), .int (iI ((ta : Int))), .int v3, .int (iI ((w : Int))), .int (iI ((i : Int)))], [.int (mx_swm ((Int32.ofNat (1007 + k - 1000)).toNatClampNeg))]) h := by
      refine Eq.trans (e_X1_mix_3 (1007 + k) (by omega) ..) ?_
      rw [if_neg (fun q => by have := (ii_le (by omega)).mp q; omega), if_pos (by rcases hk with rfl | rfl | rfl | rfl <;> decide)]
      rfl
    rw [e0]
    rcases hk with rfl | rfl | rfl | rfl
    · obtain ⟨lb, q1, q2⟩ := opd_l G C (B (by decide)) (show i < w by omega) (by omega)
      obtain ⟨r1, z1, gs1, h1, x1, x2, x3⟩ := and_m G W (by omega) p2 q2
      refine go r1 z1 gs1 h1 x2 x3 _ ?_
      refine Eq.trans (e_X1_mix_18_17 ..) (Eq.trans (e_X1_mix_44 ..) ?_)
      rw [p1]
      refine Eq.trans (e_X1_mix_61 ..) ?_
      rw [q1]
      refine Eq.trans (e_X1_mix_68 ..) ?_
      rw [x1]
      refine Eq.trans (e_X1_mix_71 ..) ?_
      rw [if_pos (in4 (by omega)), cln (by omega)]
    · obtain ⟨lb, q1, q2⟩ := opd_l G C (B (by decide)) (show i < w by omega) (by omega)
      obtain ⟨r1, z1, gs1, h1, x1, x2, x3⟩ := or_m G W (by omega) p2 q2
      refine go r1 z1 gs1 h1 x2 x3 _ ?_
      refine Eq.trans (e_X1_mix_18_18 ..) (Eq.trans (e_X1_mix_75 ..) ?_)
      rw [p1]
      refine Eq.trans (e_X1_mix_92 ..) ?_
      rw [q1]
      refine Eq.trans (e_X1_mix_99 ..) ?_
      rw [x1]
      refine Eq.trans (e_X1_mix_102 ..) ?_
      rw [if_pos (in4 (by omega)), cln (by omega)]
    · obtain ⟨lb, q1, q2⟩ := opd_l G C (B (by decide)) (show i < w by omega) (by omega)
      obtain ⟨r1, z1, gs1, h1, x1, x2, x3⟩ := xor_m G W (by omega) p2 q2
      refine go r1 z1 gs1 h1 x2 x3 _ ?_
      refine Eq.trans (e_X1_mix_18_19 ..) (Eq.trans (e_X1_mix_106 ..) ?_)
      rw [p1]
      refine Eq.trans (e_X1_mix_123 ..) ?_
      rw [q1]
      refine Eq.trans (e_X1_mix_130 ..) ?_
      rw [x1]
      refine Eq.trans (e_X1_mix_133 ..) ?_
      rw [if_pos (in4 (by omega)), cln (by omega)]
    · refine go (ng la) z gs h (GX_r G W) (Lm_ng p2) _ ?_
      refine Eq.trans (e_X1_mix_18_d (hx := by decide) ..) (Eq.trans (e_X1_mix_137 ..) ?_)
      rw [p1]
      refine Eq.trans (e_X1_mix_150 ..) ?_
      rw [if_pos (in4 (by omega)), cln (by omega), ii_ng (Lm_lt G p2)]
theorem X1_mix_c {k ta : Nat} {v3 : Int32} {w : Nat} {f g : Nat → Int → Bool} (hk : k = 14 ∨ k = 15 ∨ k = 16 ∨ k = 12) (w4 : w ≤ 4) (hz : z + w ≤ 1065) (G : GtC z gs h.1) (W : GW z gs) (C : Cx n b ts h) (A : Opd z gs Q h b (iI (ta : Int)) w f) (B : k ≠ 12 → Opd z gs Q h b v3 w g) : Gv w (TA 32) z gs h (fun z' gs' h' => AR z' gs' Q h' 32 w (mxB k f g)) (mx_C mm_X1_mix [.ref 28, mx_rf (some (1007 + k)), .int (iI ((ta : Int))), .int v3, .int (iI ((w : Int)))] h) := by
  rw [c_X1_mix, e_X1_mix_0]
  exact X1_mix_3 hk w4 w 0 z gs h (by omega) hz G W C A B (fun j hj => by omega)
end CU
