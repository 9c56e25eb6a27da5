/-! the class's circuits: divide -/
def dsB (L : Nat → Int → Bool) (ak : Int → Bool) (i : Nat) (x : Int) : Bool := if i = 0 then ak x else L (i - 1) x
def nB (c : Nat → Int → Bool) (i : Nat) (x : Int) : Bool := (c i x).xor true
def dvL (a c : Nat → Int → Bool) (w : Nat) : Nat → Nat → Int → Bool
  | 0, _, _ => false
  | j + 1, i, x => if cyB (dsB (dvL a c w j) (a (w - 1 - j))) (nB c) true w x = true then smB (dsB (dvL a c w j) (a (w - 1 - j))) (nB c) true i x else dsB (dvL a c w j) (a (w - 1 - j)) i x
def dvG (a c : Nat → Int → Bool) (w j : Nat) (x : Int) : Bool := cyB (dsB (dvL a c w j) (a (w - 1 - j))) (nB c) true w x
def TD (b : Nat) : Nat → Nat → Prop := fun a k => TR a k ∨ T9 b a k
section CS
variable {z : Nat} {gs : Nat → Gt} {h : mx_H} {Q : (Nat → Prop) → Prop} {n b : Nat} {ts : Nat → Tm}
theorem TD_29 : ∀ a k, TD b a k → 29 ≤ a := fun a k q => by rcases q with q | q; (have := q.1; omega); (have := q.1; omega)
theorem TD_t {w : Nat} (w8 : w ≤ 8) : ∀ t k, t < b → k < w → ¬ TD b 29 (8 * t + k) := fun t k p q e => by rcases e with e | e; (have := e.1; omega); (have := e.2; omega)
theorem X1_divide_32 {o : Option Nat} {ta tb w : Nat} {v5 : Int32} {v7 : Value} {L : Nat → Int → Bool} (w4 : w ≤ 4) : ∀ (d : Nat) (h : mx_H), d < w → GtC z gs h.1 → GW z gs → (∀ p, p < w → CL z gs Q h 30 p (fun x => if p ≤ d then L p x else L (p - 1) x)) → ∃ h', mx_D (5, mm_X1_divide, 32, [.ref 28, mx_rf o, .int (iI ((ta : Int))), .int (iI ((tb : Int))), .int (iI ((w : Int))), .int v5, .int (iI ((d : Int))), v7], []) h = mx_D (5, mm_X1_divide, 32, [.ref 28, mx_rf o, .int (iI ((ta : Int))), .int (iI ((tb : Int))), .int (iI ((w : Int))), .int v5, .int (iI (((0 : Nat) : Int))), v7], []) h' ∧ GY 0 (TA 30) z gs h z gs h' ∧ (∀ p, p < w → CL z gs Q h' 30 p (fun x => if p ≤ 0 then L p x else L (p - 1) x)) := by
  intro d
  induction d with
  | zero =>
    intro h hd G W R
    exact ⟨h, rfl, GY_r G W, R⟩
  | succ d ih =>
    intro h hd G W R
    obtain ⟨l, p1, p2⟩ := R d (by omega)
    have p2 := Lm_f p2 (fun x => by rw [if_pos (show d ≤ d + 1 by omega)])
    have Y : GY 0 (TA 30) z gs h z gs (mx_u h.1 30 (d + 1) (iI (l : Int)), h.2.1, h.2.2) := GY_u G W (by decide) rfl
    obtain ⟨h3, k1, k2, k3⟩ := ih _ (by omega) Y.1 W (fun p hp => by
      by_cases e : p = d + 1
      · rw [e]
        exact CL_n (Lm_f p2 (fun x => by rw [if_neg (show ¬ d + 1 ≤ d by omega)]; rfl))
      · obtain ⟨l', u1, u2⟩ := R p hp
        refine ⟨l', by dsimp only; rw [mu_k _ _ e]; exact u1, Lm_f u2 (fun x => ?_)⟩
        by_cases q : p ≤ d
        · rw [if_pos q, if_pos (by omega)]
        · rw [if_neg q, if_neg (by omega)])
    refine ⟨h3, ?_, GY_t Y k2 (by omega) (fun _ _ q => q) (fun _ _ q => q), k3⟩
    have e1 : iI ((d + 1 : Nat) : Int) - 1 = iI (d : Int) := by rw [show (1 : Int32) = iI 1 from rfl, ii_sub]; congr 1; omega
    have e2 : iI ((d + 1 : Nat) : Int) + (-1) = iI (d : Int) := by rw [show (-1 : Int32) = iI (-1) by decide, ii_add]; congr 1; omega
    rw [e_X1_divide_32, if_neg (show ¬ iI ((d + 1 : Nat) : Int) ≤ 0 from fun q => by have := (ii_le (b := 0) (by omega)).mp q; omega), e1, e2, if_pos (in4 (by omega)), if_pos (in4 (by omega)), cln (by omega), cln (by omega), p1]
    exact k1
theorem X1_divide_84 {o : Option Nat} {ta tb w gi : Nat} {v5 : Int32} {S N : Nat → Int → Bool} {K : Int → Bool} (wr : mx_wr (mx_rf o) = true) (w4 : w ≤ 4) : ∀ (d i z : Nat) (gs : Nat → Gt) (h : mx_H), i + d = w → z + d ≤ 1065 → GtC z gs h.1 → GW z gs → Lm z gs Q gi K → AR z gs Q h 32 w N → (∀ p, p < w → CL z gs Q h 30 p (fun x => if p < i then (if K x = true then N p x else S p x) else S p x)) → ∃ z' gs' h', mx_D (5, mm_X1_divide, 84, [.ref 28, mx_rf o, .int (iI ((ta : Int))), .int (iI ((tb : Int))), .int (iI ((w : Int))), .int v5, .int (iI ((gi : Int))), .int (iI ((i : Int)))], []) h = mx_D (5, mm_X1_divide, 84, [.ref 28, mx_rf o, .int (iI ((ta : Int))), .int (iI ((tb : Int))), .int (iI ((w : Int))), .int v5, .int (iI ((gi : Int))), .int (iI ((w : Int)))], []) h' ∧ GY d (TA 30) z gs h z' gs' h' ∧ (∀ p, p < w → CL z' gs' Q h' 30 p (fun x => if K x = true then N p x else S p x)) := by
  intro d
  induction d with
  | zero =>
    intro i z gs h hi hz G W M R L
    refine ⟨z, gs, h, by rw [show i = w by omega], GY_r G W, fun p hp => CL_f (fun x => by rw [if_pos (by omega)]) (L p hp)⟩
  | succ d ih =>
    intro i z gs h hi hz G W M R L
    obtain ⟨la, p1, p2⟩ := R i (by omega)
    obtain ⟨lb, q1, q2⟩ := L i (by omega)
    have q2 := Lm_f q2 (fun x => by rw [if_neg (show ¬ i < i by omega)])
    obtain ⟨r1, z1, gs1, h1, x1, x2, x3⟩ := mux_m G W (by omega) M p2 q2
    have X2 : GY 1 (TA 30) z gs h z1 gs1 h1 := GY_g x2
    have X5 : GY 0 (TA 30) z1 gs1 h1 z1 gs1 (mx_u h1.1 30 i (iI (r1 : Int)), h1.2.1, h1.2.2) := GY_u X2.1 X2.2.1 (by decide) rfl
    have X6 := GY_t (m'' := 1) (T'' := TA 30) X2 X5 (by omega) (fun _ _ q => q) (fun _ _ q => q)
    have zb := X6.2.2.2.1
    obtain ⟨z4, gs4, h4, k1, k2, k3⟩ := ih (i + 1) z1 gs1 _ (by omega) (by omega) X6.1 X6.2.1 (Lm_y W X6 M) (AR_y W X6 (by decide) (fun k (q : 32 = 30) => by omega) R) (fun p hp => by
      by_cases e : p = i
      · rw [e]; exact CL_n (Lm_f x3 (fun x => by rw [if_pos (show i < i + 1 by omega)]))
      · obtain ⟨l', u1, u2⟩ := CL_y W (GY_g (T := fun _ _ => False) x2) (by omega) (fun q => q) (L p hp)
        refine ⟨l', by dsimp only; rw [mu_k _ _ e]; exact u1, Lm_f u2 (fun x => ?_)⟩
        by_cases q : p < i
        · rw [if_pos q, if_pos (show p < i + 1 by omega)]
        · rw [if_neg q, if_neg (show ¬ p < i + 1 by omega)])
    refine ⟨z4, gs4, h4, ?_, GY_t X6 k2 (by omega) (fun _ _ q => q) (fun _ _ q => q), k3⟩
    rw [e_X1_divide_84 (hq0 := wr), if_neg (fun q => by have := (ii_le (by omega)).mp q; omega), if_pos (in4 (by omega)), if_pos (in4 (by omega)), cln (by omega), p1, q1, x1]
    refine Eq.trans (e_X1_divide_120 ..) ?_
    rw [if_pos (in4 (by omega)), cln (by omega), ii_s]
    exact k1
theorem X1_divide_151 {ta tb w : Nat} {v6 v7 : Value} {F : Nat → Int → Bool} (w4 : w ≤ 4) : ∀ (d i : Nat) (h : mx_H), i + d = w → GtC z gs h.1 → GW z gs → Cx n b ts h → AR z gs Q h 30 w F → (∀ j, j < i → CL z gs Q h 29 (8 * b + j) (F j)) → Gv 0 (T9 b) z gs h (fun z' gs' h' => ∀ j, j < w → CL z' gs' Q h' 29 (8 * b + j) (F j)) (mx_D (5, mm_X1_divide, 151, [.ref 28, mx_rf (some 1028), .int (iI ((ta : Int))), .int (iI ((tb : Int))), .int (iI ((w : Int))), .int (iI ((i : Int))), v6, v7], []) h) := by
  intro d
  induction d with
  | zero =>
    intro i h hi G W C L R
    rw [e_X1_divide_151 (hq0 := rfl), if_pos ((ii_le (by omega)).mpr (by omega)), e_X1_divide_184]
    exact ⟨z, gs, h, rfl, GY_r G W, fun j hj => R j (by omega)⟩
  | succ d ih =>
    intro i h hi G W C L R
    obtain ⟨l, p1, p2⟩ := L i (by omega)
    have Y : GY 0 (T9 b) z gs h z gs (mx_u h.1 29 (8 * b + i) (iI (l : Int)), h.2.1, h.2.2) := GY_u G W (by decide) ⟨rfl, by omega⟩
    obtain ⟨z3, gs3, h3, k1, k2, k3⟩ := ih (i + 1) _ (by omega) Y.1 W (Cx_y Y T9_29 C) (AR_y W Y (by decide) (fun k q => by have := q.1; omega) L) (CL_set (v := 0) R p2)
    refine ⟨z3, gs3, h3, ?_, GY_t Y k2 (by omega) (fun _ _ q => q) (fun _ _ q => q), k3⟩
    rw [e_X1_divide_151 (hq0 := rfl), if_neg (fun q => by have := (ii_le (by omega)).mp q; omega), if_pos (by rfl), if_pos (in4 (by omega)), cln (by omega), p1, X1_set_c C (by omega)]
    refine Eq.trans (e_X1_divide_178 ..) ?_
    rw [ii_s]
    exact k1
theorem X1_divide_21 {wd ta tb w : Nat} {f g : Nat → Int → Bool} (hwd : wd = 1027 ∨ wd = 1028) (w1 : 1 ≤ w) (w4 : w ≤ 4) : ∀ (d j z : Nat) (gs : Nat → Gt) (h : mx_H) (v6 v7 : Value), j + d = w → z + d * (4 * w) ≤ 1065 → GtC z gs h.1 → GW z gs → Cx n b ts h → Opd z gs Q h b (iI (ta : Int)) w f → AR z gs Q h 31 w (nB g) → AR z gs Q h 30 w (dvL f g w j) → (wd = 1027 → ∀ i, w - j ≤ i → i < w → CL z gs Q h 29 (8 * b + i) (dvG f g w (w - 1 - i))) → Gv (d * (4 * w)) (TD b) z gs h (fun z' gs' h' => ∀ i, i < w → CL z' gs' Q h' 29 (8 * b + i) (if wd = 1027 then dvG f g w (w - 1 - i) else dvL f g w w i)) (mx_D (5, mm_X1_divide, 21, [.ref 28, mx_rf (some wd), .int (iI ((ta : Int))), .int (iI ((tb : Int))), .int (iI ((w : Int))), .int (iI ((w : Int) - 1 - j)), v6, v7], []) h) := by
  have wr : mx_wr (mx_rf (some wd)) = true := decide_eq_true (p := 1000 ≤ wd ∧ wd < 1042) (by omega)
  intro d
  induction d with
  | zero =>
    intro j z gs h v6 v7 hj hz G W C A R L D
    rw [e_X1_divide_21, if_pos (show iI ((w : Int) - 1 - j) < 0 from (ii_lt (b := 0) (by omega)).mpr (by omega))]
    by_cases q : wd = 1027
    · refine ⟨z, gs, h, ?_, GY_r G W, fun i hi => by rw [if_pos q]; exact D q i (by omega) hi⟩
      rw [e_X1_divide_151 (hq0 := wr), if_neg (show ¬ iI (w : Int) ≤ 0 from fun q => by have := (ii_le (b := 0) (by omega)).mp q; omega), if_neg (c := mx_rf (some wd) = .ref 1028) (fun e => by have := wdE.mp e; omega), e_X1_divide_184]
    · have q' := hwd.resolve_left q
      simp only [if_neg q]
      rw [q']
      rw [show w = j by omega] at L ⊢
      rw [show w = j by omega] at w4
      obtain ⟨z3, gs3, h3, k1, k2, k3⟩ := X1_divide_151 (ta := ta) (tb := tb) (v6 := v6) (v7 := v7) w4 j 0 h (by omega) G W C L (fun i hi => by omega)
      exact ⟨z3, gs3, h3, k1, GY_w k2 (by omega) (fun _ _ q => Or.inr q), k3⟩
  | succ d ih =>
    intro j z gs h v6 v7 hj hz G W C A R L D
    have em : (d + 1) * (4 * w) = 4 * w + d * (4 * w) := by rw [Nat.add_mul, Nat.one_mul, Nat.add_comm]
    rw [em] at hz ⊢
    have jw : ((w : Int) - 1 - j) = ((w - 1 - j : Nat) : Int) := by omega
    rw [e_X1_divide_21, if_neg (show ¬ iI ((w : Int) - 1 - j) < 0 from fun q => by have := (ii_lt (b := 0) (by omega)).mp q; omega), ii_top w1]
    obtain ⟨h1, a1, a2, a3⟩ := X1_divide_32 (o := some wd) (ta := ta) (tb := tb) (v5 := iI ((w : Int) - 1 - j)) (v7 := v7) (L := dvL f g w j) w4 (w - 1) h (by omega) G W (fun p hp => CL_f (fun x => by rw [if_pos (by omega)]) (L p hp))
    have C1 := Cx_y a2 (TA_29 (by decide)) C
    have A1 := opd_y W a2 (fun t k _ _ => n29 (by decide) t k) A
    obtain ⟨la, p1, p2⟩ := opd_l a2.1 C1 A1 (show w - 1 - j < w by omega) (by omega)
    have Y2 : GY 0 (TA 30) z gs h1 z gs (mx_u h1.1 30 0 (iI (la : Int)), h1.2.1, h1.2.2) := GY_u a2.1 W (by decide) rfl
    have Y3 := GY_t (m'' := 0) (T'' := TA 30) a2 Y2 (by omega) (fun _ _ q => q) (fun _ _ q => q)
    have L3 : AR z gs Q (mx_u h1.1 30 0 (iI (la : Int)), h1.2.1, h1.2.2) 30 w (dsB (dvL f g w j) (f (w - 1 - j))) := by
      intro p hp
      by_cases e : p = 0
      · rw [e]; exact CL_n (Lm_f p2 (fun x => by unfold dsB; rw [if_pos rfl]))
      · obtain ⟨l', u1, u2⟩ := a3 p hp
        exact ⟨l', by dsimp only; rw [mu_k _ _ e]; exact u1, Lm_f u2 (fun x => by unfold dsB; rw [if_neg (by omega), if_neg e])⟩
    have R3 := AR_y W Y3 (by decide) (fun k (q : 31 = 30) => by omega) R
    obtain ⟨gi, z4, gs4, h4, s1, s2, s3, s4⟩ := X1_add_c (c := true) w4 (by omega) Y3.1 Y3.2.1 L3 R3
    have zb4 := s2.2.2.2.1
    obtain ⟨z5, gs5, h5, t1, t2, t3⟩ := X1_divide_84 (o := some wd) (ta := ta) (tb := tb) (v5 := iI ((w : Int) - 1 - j)) wr w4 w 0 z4 gs4 h4 (by omega) (by omega) s2.1 s2.2.1 s3 s4 (fun p hp => CL_f (fun x => by rw [if_neg (by omega)]) (AR_y W s2 (by decide) (fun k (q : 30 = 32) => by omega) L3 p hp))
    have Y5 : GY (4 * w) TR z gs h z5 gs5 h5 := GY_t (m := 3 * w) (GY_t (m := 0) Y3 s2 (by omega) (TA_R (by decide)) (TA_R (by decide))) t2 (by omega) (fun _ _ q => q) (TA_R (by decide))
    have zb5 := Y5.2.2.2.1
    have C5 := Cx_y Y5 TR_29 C
    have D5 : wd = 1027 → ∀ i, w - j ≤ i → i < w → CL z5 gs5 Q h5 29 (8 * b + i) (dvG f g w (w - 1 - i)) := fun q i h1 h2 => CL_y W Y5 (by omega) (fun e => by have := e.1; omega) (D q i h1 h2)
    have fin : ∀ h6, GY 0 (T9 b) z5 gs5 h5 z5 gs5 h6 → (wd = 1027 → ∀ i, w - (j + 1) ≤ i → i < w → CL z5 gs5 Q h6 29 (8 * b + i) (dvG f g w (w - 1 - i))) → ∀ X, X = mx_D (5, mm_X1_divide, 142, [.ref 28, mx_rf (some wd), .int (iI ((ta : Int))), .int (iI ((tb : Int))), .int (iI ((w : Int))), .int (iI ((w : Int) - 1 - j)), .int (iI ((gi : Int))), .int (iI ((w : Int)))], []) h6 → Gv (4 * w + d * (4 * w)) (TD b) z gs h (fun z' gs' h' => ∀ i, i < w → CL z' gs' Q h' 29 (8 * b + i) (if wd = 1027 then dvG f g w (w - 1 - i) else dvL f g w w i)) X := by
      intro h6 Y6 D6 X hX
      have Y7 : GY (4 * w) (TD b) z gs h z5 gs5 h6 := GY_t Y5 Y6 (by omega) (fun _ _ q => Or.inl q) (fun _ _ q => Or.inr q)
      obtain ⟨z8, gs8, h8, k1, k2, k3⟩ := ih (j + 1) z5 gs5 h6 (.int (iI ((gi : Int)))) (.int (iI ((w : Int)))) (by omega) (by omega) Y7.1 Y7.2.1 (Cx_y Y7 TD_29 C) (opd_y W Y7 (TD_t (by omega)) A) (AR_y Y5.2.1 Y6 (by decide) (fun k q => by have := q.1; omega) (AR_y s2.2.1 t2 (by decide) (fun k (q : 31 = 30) => by omega) (AR_y W s2 (by decide) (fun k (q : 31 = 32) => by omega) R3))) (AR_y Y5.2.1 Y6 (by decide) (fun k q => by have := q.1; omega) t3) D6
      refine ⟨z8, gs8, h8, ?_, GY_t Y7 k2 (by omega) (fun _ _ q => q) (fun _ _ q => q), k3⟩
      have e2 : iI ((w : Int) - 1 - j) + (-1) = iI ((w : Int) - 1 - ((j + 1 : Nat) : Int)) := by rw [show (-1 : Int32) = iI (-1) by decide, ii_add]; congr 1; omega
      rw [hX, e_X1_divide_142, e2]
      exact k1
    have e84 : mx_D (5, mm_X1_divide, 32, [.ref 28, mx_rf (some wd), .int (iI ((ta : Int))), .int (iI ((tb : Int))), .int (iI ((w : Int))), .int (iI ((w : Int) - 1 - j)), .int (iI (((w - 1 : Nat) : Int))), v7], []) h = mx_D (5, mm_X1_divide, 84, [.ref 28, mx_rf (some wd), .int (iI ((ta : Int))), .int (iI ((tb : Int))), .int (iI ((w : Int))), .int (iI ((w : Int) - 1 - j)), .int (iI ((gi : Int))), .int (iI ((w : Int)))], []) h5 := by
      rw [a1, e_X1_divide_32, if_pos (by decide), jw, p1]
      refine Eq.trans (e_X1_divide_71 ..) ?_
      rw [if_pos (by decide)]
      dsimp only
      rw [show (0 : Int32) = bI (!true) from rfl]
      have s1' : mx_C mm_X1_add [.ref 28, .int (iI ((w : Int))), .int (bI (!true))] (mx_u h1.1 30 (bI (!true)).toNatClampNeg (iI (la : Int)), h1.2.1, h1.2.2) = some (some (.int (iI ((gi : Int)))), h4) := s1
      rw [s1']
      refine Eq.trans (e_X1_divide_79 ..) ?_
      rw [← jw]
      exact t1
    rw [e84, e_X1_divide_84 (hq0 := wr), if_pos ((ii_le (by omega)).mpr (by omega))]
    by_cases q : wd = 1027
    · rw [if_pos (c := mx_rf (some wd) = .ref 1027) (wdE.mpr q)]
      have st : mx_C mm_X1_set [.ref 28, .int (iI ((w : Int) - 1 - j)), .int (iI ((gi : Int)))] h5 = some (none, (mx_u h5.1 29 (8 * b + (w - 1 - j)) (iI (gi : Int)), h5.2.1, h5.2.2)) := by rw [jw]; exact X1_set_c C5 (by omega)
      rw [st]
      refine fin (mx_u h5.1 29 (8 * b + (w - 1 - j)) (iI (gi : Int)), h5.2.1, h5.2.2) (GY_u Y5.1 Y5.2.1 (by decide) ⟨rfl, by omega⟩) (fun _ i h1 h2 => ?_) _ rfl
      by_cases e : i = w - 1 - j
      · rw [e]
        exact CL_n (Lm_f (Lm_y s2.2.1 t2 s3) (fun x => by rw [show w - 1 - (w - 1 - j) = j by omega]; rfl))
      · obtain ⟨l', u1, u2⟩ := D5 q i (by omega) h2
        exact ⟨l', by dsimp only; rw [mu_k _ _ (by omega)]; exact u1, u2⟩
    · rw [if_neg (c := mx_rf (some wd) = .ref 1027) (fun e => q (wdE.mp e))]
      exact fin h5 (GY_r Y5.1 Y5.2.1) (fun e => absurd e q) _ rfl
theorem X1_divide_c {wd ta tb w : Nat} {f g : Nat → Int → Bool} (hwd : wd = 1027 ∨ wd = 1028) (w1 : 1 ≤ w) (w4 : w ≤ 4) (hz : z + w * (4 * w) ≤ 1065) (G : GtC z gs h.1) (W : GW z gs) (C : Cx n b ts h) (A : Opd z gs Q h b (iI (ta : Int)) w f) (B : Opd z gs Q h b (iI (tb : Int)) w g) : Gv (w * (4 * w)) (TD b) z gs h (fun z' gs' h' => ∀ i, i < w → CL z' gs' Q h' 29 (8 * b + i) (if wd = 1027 then dvG f g w (w - 1 - i) else dvL f g w w i)) (mx_C mm_X1_divide [.ref 28, mx_rf (some wd), .int (iI ((ta : Int))), .int (iI ((tb : Int))), .int (iI ((w : Int)))] h) := by
  obtain ⟨z1, gs1, h1, e1, e2, e3⟩ := X1_loadLeft_c (v := -1) (F := fun _ _ => false) w4 G W C (Or.inl ⟨rfl, rfl⟩)
  have zb := e2.2.2.2.1
  have C1 := Cx_y e2 (TA_29 (by decide)) C
  obtain ⟨z2, gs2, h2, f1, f2, f3⟩ := X1_loadRight_c (tu := true) w4 e2.1 e2.2.1 C1 (opd_y W e2 (fun t k _ _ => n29 (by decide) t k) B)
  have Y := GY_t (m'' := 0) (T'' := TD b) e2 f2 (by omega) (fun a k q => Or.inl (TA_R (by decide) a k q)) (fun a k q => Or.inl (TA_R (by decide) a k q))
  have zb2 := Y.2.2.2.1
  obtain ⟨z3, gs3, h3, k1, k2, k3⟩ := X1_divide_21 (tb := tb) (f := f) (g := g) hwd w1 w4 w 0 z2 gs2 h2 mx_junk mx_junk (by omega) (by omega) Y.1 Y.2.1 (Cx_y Y TD_29 C) (opd_y W Y (TD_t (by omega)) A) f3 (AR_y e2.2.1 f2 (by decide) (fun k (q : 30 = 31) => by omega) e3) (fun _ i h1 h2 => by omega)
  refine ⟨z3, gs3, h3, ?_, GY_t Y k2 (by omega) (fun _ _ q => q) (fun _ _ q => q), k3⟩
  rw [c_X1_divide, e_X1_divide_0, e1]
  refine Eq.trans (e_X1_divide_7 ..) ?_
  rw [show (1 : Int32) = bI true from rfl, f1]
  refine Eq.trans (e_X1_divide_15 ..) ?_
  rw [ii_top w1, show ((w - 1 : Nat) : Int) = (w : Int) - 1 - ((0 : Nat) : Int) by omega]
  exact k1
end CS
