/-! the search: the main loop -/
noncomputable def bP (P : Prop) : Nat := @ite Nat P (Classical.propDecidable P) 1 0
theorem bP_1 {P : Prop} (h : P) : bP P = 1 := by unfold bP; exact if_pos h
theorem bP_0 {P : Prop} (h : ¬ P) : bP P = 0 := by unfold bP; exact if_neg h
theorem bP_le (P : Prop) : bP P ≤ 1 := by
  by_cases h : P
  · rw [bP_1 h]; omega
  · rw [bP_0 h]; omega
theorem bP_h {P : Prop} (h : bP P = 1) : P := by
  by_cases q : P
  · exact q
  · rw [bP_0 q] at h; omega
noncomputable def mkm (P : Nat → Prop) : Nat := bP (P 0) + 2 * bP (P 1) + 4 * bP (P 2) + 8 * bP (P 3) + 16 * bP (P 4) + 32 * bP (P 5) + 64 * bP (P 6) + 128 * bP (P 7)
theorem mkm_e (P : Nat → Prop) : mkm P < 256 ∧ ∀ p, p < 8 → mkm P / 2 ^ p % 2 = bP (P p) := by
  have a0 := bP_le (P 0)
  have a1 := bP_le (P 1)
  have a2 := bP_le (P 2)
  have a3 := bP_le (P 3)
  have a4 := bP_le (P 4)
  have a5 := bP_le (P 5)
  have a6 := bP_le (P 6)
  have a7 := bP_le (P 7)
  unfold mkm
  refine ⟨by omega, fun p hp => ?_⟩
  have c : p = 0 ∨ p = 1 ∨ p = 2 ∨ p = 3 ∨ p = 4 ∨ p = 5 ∨ p = 6 ∨ p = 7 := by omega
  rcases c with e | e | e | e | e | e | e | e <;> rw [e] <;> simp only [Nat.reducePow] <;> omega
theorem mkm_t {P : Nat → Prop} {p : Nat} (hp : p < 8) : mkm P / 2 ^ p % 2 = 1 ↔ P p := by
  rw [(mkm_e P).2 p hp]
  exact ⟨bP_h, bP_1⟩
def ILc (N : Nat) (od : Nat → Nat) (s : Se) (k : Nat) : Prop := (∃ c, c < eM s ∧ ∀ l, inC s c l → ∃ p, p < N ∧ k / 2 ^ p % 2 = 1 ∧ l = 2 * od p) ∨ ∃ i p, i < eT s ∧ dcn (eR s) (i + 1) = 0 ∧ p < N ∧ k / 2 ^ p % 2 = 1 ∧ eX s i = 2 * od p
/-- what the search never takes back -/
def K0 (s s' : Se) : Prop := (eM s ≤ eM s' ∧ ∀ c, c < eM s → ∀ l, inC s' c l ↔ inC s c l) ∧ ∀ i, i < eT s → dcn (eR s) (i + 1) = 0 → i < eT s' ∧ eX s' i = eX s i ∧ dcn (eR s') (i + 1) = 0
theorem K0_r (s : Se) : K0 s s := ⟨⟨Nat.le_refl _, fun _ _ _ => Iff.rfl⟩, fun _ h1 h2 => ⟨h1, rfl, h2⟩⟩
theorem K0_t {a b c : Se} (x : K0 a b) (y : K0 b c) : K0 a c := by
  obtain ⟨⟨x1, x2⟩, x3⟩ := x
  obtain ⟨⟨y1, y2⟩, y3⟩ := y
  refine ⟨⟨by omega, fun c hc l => by rw [y2 c (by omega) l, x2 c hc l]⟩, fun i h1 h2 => ?_⟩
  obtain ⟨q1, q2, q3⟩ := x3 i h1 h2
  obtain ⟨r1, r2, r3⟩ := y3 i q1 q3
  exact ⟨r1, by rw [r2, q2], r3⟩
theorem SY_d {a b : Se} (x : SY a b) {i : Nat} (hi : i ≤ eT a) : dcn (eR b) i = dcn (eR a) i := dcn_e i (fun j hj => (x.2.2.2.1 j (by omega)).2)
theorem K0_SY {a b : Se} (x : SY a b) : K0 a b := ⟨⟨by rw [x.1]; exact Nat.le_refl _, x.2.2.2.2⟩, fun i h1 h2 => ⟨by have := x.2.2.1; omega, (x.2.2.2.1 i h1).1, by rw [SY_d x (by omega)]; exact h2⟩⟩
theorem ILc_k {N : Nat} {od : Nat → Nat} {s s' : Se} (x : K0 s s') {k : Nat} (h : ILc N od s k) : ILc N od s' k := by
  rcases h with ⟨c, c1, c2⟩ | ⟨i, p, i1, i2, i3, i4, i5⟩
  · exact Or.inl ⟨c, by have := x.1.1; omega, fun l hl => c2 l ((x.1.2 c c1 l).mp hl)⟩
  · obtain ⟨q1, q2, q3⟩ := x.2 i i1 i2
    exact Or.inr ⟨i, p, q1, q3, i3, i4, by rw [q2]; exact i5⟩
section LP
variable {z : Nat} {gs : Nat → Gt} {N : Nat} {od : Nat → Nat} {Sol : Int → Prop} {s : Se}
theorem K0_LN {s' : Se} {w : Nat} {g ix : Nat → Nat} {t' : Nat} (I : clI z s) (h : LN s s' w g ix t') : K0 s s' := by
  obtain ⟨⟨l1, l2, l3⟩, ⟨l4, l5⟩, l6, l7⟩ := h
  by_cases e : w = 1
  · obtain ⟨r1, r2⟩ := l6 e
    rw [r1]
    refine ⟨⟨Nat.le_refl _, fun _ _ _ => Iff.rfl⟩, fun i h1 h2 => ?_⟩
    have := l5 i h1 h2
    exact ⟨by show i < t' + 1; omega, asg_X (s := ctT s t') this, by rw [asg_d (s := ctT s t') (show i + 1 ≤ t' by omega)]; exact h2⟩
  · obtain ⟨r0, r1⟩ := l7 (by omega)
    rw [r1]
    refine ⟨⟨by show eM s ≤ eM s + 1; omega, fun c hc l => inC_fin I hc⟩, fun i h1 h2 => ?_⟩
    have := l5 i h1 h2
    exact ⟨by show i < t' + 1; omega, asg_X (s := ctT (fin s g w) t') this, by rw [asg_d (s := ctT (fin s g w) t') (show i + 1 ≤ t' by omega)]; exact h2⟩
theorem LN_g {s' : Se} {w : Nat} {g ix : Nat → Nat} {t' : Nat} (R : rsI gs N od Sol s) (h : LN s s' w g ix t') {j : Nat} (hj : j < w) : ∃ p, p < N ∧ g j = 2 * od p := by
  obtain ⟨a, b, c⟩ := h.1.2.1 j hj
  obtain ⟨p, p1, p2, _⟩ := rs_dec R a b
  exact ⟨p, p1, by rw [c, p2, show 2 * od p + 1 = ng (2 * od p) by unfold ng; rw [if_pos (by omega)], ng_ng]⟩
theorem IL_fresh {q : Nat} {s' : Se} {w : Nat} {g ix : Nat → Nat} {t' : Nat} (I : IvI z gs N od Sol s q) (h : LN s s' w g ix t') {k : Nat} (hk : ∀ p, p < N → k / 2 ^ p % 2 = 1 → ∃ j, j < w ∧ g j = 2 * od p) (L : ILc N od s k) : False := by
  obtain ⟨I1, I2, I3, I4, I5, I6⟩ := I
  obtain ⟨⟨l1, l2, l3⟩, _⟩ := h
  rcases L with ⟨c, c1, c2⟩ | ⟨i, p, i1, i2, i3, i4, i5⟩
  · have fl : ∀ l, inC s c l → ∃ j, j < w ∧ eX s (ix j) = ng l := by
      intro l hl
      obtain ⟨p, p1, p2, p3⟩ := c2 l hl
      obtain ⟨j, j1, j2⟩ := hk p p1 p2
      exact ⟨j, j1, by rw [p3, ← j2, (l2 j j1).2.2, ng_ng]⟩
    have big : ∀ m, m / 2 = c → ∃ j, j < w ∧ eX s (ix j) = ng (wl s m) ∧ q ≤ ix j := by
      intro m e
      have hm : m < 2 * eM s := by omega
      obtain ⟨j, j1, j2⟩ := fl (wl s m) ⟨_, by rw [← e]; exact inR_w I1 hm, rfl⟩
      refine ⟨j, j1, j2, ?_⟩
      by_cases y : q ≤ ix j
      · exact y
      · obtain ⟨i, i1, i2, _⟩ := I5 m hm (ix j) (by omega) j2
        obtain ⟨j', r1, r2⟩ := fl (wl s (ng m)) ⟨_, by have := inR_w I1 (ng_l hm); rw [ng_2, e] at this; rw [ng_2, e]; exact this, rfl⟩
        exact (tv_not I2 ⟨i1, i2⟩ ⟨(l2 j' r1).1, r2⟩).elim
    obtain ⟨j, j1, j2, j3⟩ := big (2 * c) (by omega)
    obtain ⟨j', r1, r2, r3⟩ := big (2 * c + 1) (by omega)
    have ne := wl_ne I1 (k := 2 * c) (by omega)
    rw [show ng (2 * c) = 2 * c + 1 by unfold ng; rw [if_pos (by omega)]] at ne
    have nj : ix j ≠ ix j' := by
      intro e
      rw [e, r2] at j2
      have := congrArg (· / 2) j2
      simp only [ng_2] at this
      exact ne this.symm
    have d1 := I6.2 (ix j) j3 (l2 j j1).1
    have d2 := I6.2 (ix j') r3 (l2 j' r1).1
    have s1 := dcn_s (l2 j j1).2.1
    have s2 := dcn_s (l2 j' r1).2.1
    by_cases y : ix j < ix j'
    · have := dcn_mono (R := eR s) (show ix j + 1 ≤ ix j' by omega)
      omega
    · have := dcn_mono (R := eR s) (show ix j' + 1 ≤ ix j by omega)
      omega
  · obtain ⟨j, j1, j2⟩ := hk p i3 i4
    refine tv_not I2 ⟨i1, i5⟩ ⟨(l2 j j1).1, ?_⟩
    rw [← j2, (l2 j j1).2.2, ng_ng]
theorem IL_add {s' : Se} {w : Nat} {g ix : Nat → Nat} {t' : Nat} (O : odI N od) (I : clI z s) (R : rsI gs N od Sol s) (h : LN s s' w g ix t') : ILc N od s' (mkm (fun p => ∃ j, j < w ∧ g j = 2 * od p)) := by
  have N8 := O.1
  have l1 := h.1.1
  by_cases e : w = 1
  · obtain ⟨r1, r2⟩ := h.2.2.1 e
    obtain ⟨p, p1, p2⟩ := LN_g R h (show 0 < w by omega)
    rw [r1]
    refine Or.inr ⟨t', p, by show t' < t' + 1; omega, ?_, p1, (mkm_t (by omega)).mpr ⟨0, by omega, p2⟩, by rw [← p2]; exact asg_Xn (s := ctT s t')⟩
    have x : dcn (eR (asg (ctT s t') (g 0) (-1))) (t' + 1) = dcn (eR s) t' + (if (-1 : Int) = -2 then 1 else 0) := asg_dn (s := ctT s t')
    rw [x, r2, if_neg (by decide)]
  · obtain ⟨r0, r1⟩ := h.2.2.2 (by omega)
    rw [r1]
    refine Or.inl ⟨eM s, by show eM s < eM s + 1; omega, fun l hl => ?_⟩
    obtain ⟨j, j1, j2⟩ := inC_new.mp (show inC (fin s g w) (eM s) l from hl)
    obtain ⟨p, p1, p2⟩ := LN_g R h j1
    exact ⟨p, p1, (mkm_t (by omega)).mpr ⟨j, j1, p2⟩, by rw [← j2, p2]⟩
theorem canHold_74 (z6 : z ≤ 1065) (z9 : 9 ≤ z) (O : odI N od) {s0 : Se} (m0 : eM s0 ≤ 4224) (f0 : eF s0 (eM s0) ≤ 12672) {cm : Int32} : ∀ (d : Nat) (s : Se) (ch : Nat → List Nat) (h : mx_H) (st : Nat) (L : List Nat) (v4 : Value), 2313 ≤ 9 * L.length + dcn (eR s) (eT s) + d → st ≤ 9 * L.length + dcn (eR s) (eT s) → L.Nodup → (∀ k, k ∈ L → k < 256 ∧ ILc N od s k) → K0 s0 s → eM s ≤ eM s0 + L.length → eF s (eM s) ≤ eF s0 (eM s0) + 8 * L.length → SeC z s ch h → MkC z (fun _ => False) h → OdC N od h → IvI z gs N od Sol s (eQ s) → ∃ b h', mx_D (14, mm_X6_canHold, 74, [.ref 33, .ref 46, .int cm, .int (iI ((st : Int))), v4], []) h = some (some (.int b), h') ∧ SF h h' ∧ h'.1 36 0 = 0 ∧ ((b = 0 ∧ ∀ x, ¬ Sol x) ∨ (b = 1 ∧ ∃ s', K0 s0 s' ∧ IvI z gs N od Sol s' (eT s') ∧ TrC z s' h' ∧ ∀ p, p < N → ∃ j, j < eT s' ∧ eX s' j / 2 = od p)) := by
  intro d
  induction d with
  | zero =>
    intro s ch h st L v4 h1 h2 nd il k0 em ef C K D I
    have := nd_len 256 L nd (fun k hk => (il k hk).1)
    have := lev_N I.2.1 I.2.2.2.1 O
    have := O.1
    omega
  | succ d ih =>
    intro s ch h st L v4 h1 h2 nd il k0 em ef C K D I
    have ln := nd_len 256 L nd (fun k hk => (il k hk).1)
    have lv8 := lev_N I.2.1 I.2.2.2.1 O
    have N8 := O.1
    obtain ⟨s1, ch1, hp, b, p1, p2, p3, p4, p5, p6⟩ := X6_propagate_c z6 C I
    have k1 := K0_t k0 (K0_SY p3)
    have lm : dcn (eR s) (eT s) ≤ dcn (eR s1) (eT s1) := by
      rw [← SY_d p3 (Nat.le_refl _)]
      exact dcn_mono p3.2.2.1
    have K1 : MkC z (fun _ => False) hp := fun u hu => by rw [p4.1 40 u (by omega) (by omega) (by omega) (by omega) (by omega)]; exact K u hu
    have D1 : OdC N od hp := ⟨by rw [p4.1 33 3 (by omega) (by omega) (by omega) (by omega) (by omega)]; exact D.1, fun p hp => by rw [p4.1 39 p (by omega) (by omega) (by omega) (by omega) (by omega)]; exact D.2 p hp⟩
    have em1 : eM s1 = eM s := p3.1
    have ef1 : eF s1 (eM s1) = eF s (eM s) := by rw [p3.2.1, em1]
    have il1 : ∀ k, k ∈ L → k < 256 ∧ ILc N od s1 k := fun k hk => ⟨(il k hk).1, ILc_k (K0_SY p3) (il k hk).2⟩
    rw [e_X6_canHold_74, if_neg (fun y => by have := (ii_le (a := 1000000) (by omega)).mp y; omega), p1]
    cases b with
    | none =>
      obtain ⟨I1, q1⟩ := p5 rfl
      rcases X6_decide_c z6 z9 O D1 p2 I1 q1 with ⟨d1, d2⟩ | ⟨p, h2', d1, d2, d3, d4, d5, d6⟩
      · refine ⟨1, hp, ?_, SF_p p4, ?_, Or.inr ⟨rfl, s1, k1, by rw [← q1]; exact I1, p2.2.1, d2⟩⟩
        · refine Eq.trans (e_X6_canHold_84 ..) ?_
          rw [if_pos (show bv none = -1 from rfl)]
          dsimp only
          rw [d1]
          refine Eq.trans (e_X6_canHold_96 ..) ?_
          rw [if_pos rfl]
        · rw [p2.1.2.1 0 (by omega), I1.1.1]; rfl
      · have sn : dcn (eR (asg s1 (2 * od p + 1) (-2))) (eT s1 + 1) = dcn (eR s1) (eT s1) + 1 := by rw [asg_dn, if_pos rfl]
        obtain ⟨b, h', r1, r2, r3, r4⟩ := ih (asg s1 (2 * od p + 1) (-2)) ch1 h2' (st + 1) L (.int (-1)) (by show 2313 ≤ 9 * L.length + dcn (eR (asg s1 (2 * od p + 1) (-2))) (eT s1 + 1) + d; omega) (by show st + 1 ≤ 9 * L.length + dcn (eR (asg s1 (2 * od p + 1) (-2))) (eT s1 + 1); omega) nd (fun k hk => ⟨(il1 k hk).1, ILc_k (K0_SY (SY_x SX_asg)) (il1 k hk).2⟩) (K0_t k1 (K0_SY (SY_x SX_asg))) (by show eM s1 ≤ _; omega) (by show eF s1 (eM s1) ≤ _; omega) d3 (fun u hu => by rw [d6 u]; exact K1 u hu) ⟨by rw [d5.1 33 3 (by omega)]; exact D1.1, fun p hp => by rw [d5.1 39 p (by omega)]; exact D1.2 p hp⟩ (by show IvI z gs N od Sol (asg s1 (2 * od p + 1) (-2)) (eQ s1); rw [q1]; exact d4)
        refine ⟨b, h', ?_, SF_t (SF_t (SF_p p4) d5) r2, r3, r4⟩
        refine Eq.trans (e_X6_canHold_84 ..) ?_
        rw [if_pos (show bv none = -1 from rfl)]
        dsimp only
        rw [d2]
        refine Eq.trans (e_X6_canHold_96 ..) ?_
        rw [if_neg (by decide)]
        refine Eq.trans (e_X6_canHold_112 ..) ?_
        rw [ii_s1]
        exact r1
    | some c =>
      obtain ⟨q, q1, q2, q3, q4, q5⟩ := p6 c rfl
      have c4 := q3.1.2.2.2.2.1
      have nc : ¬ bv (some c) = (-1 : Int32) := fun y => by
        have y : iI (c : Int) = (-1 : Int32) := y
        rw [show (-1 : Int32) = iI (-1) by decide] at y
        have := (ii_eq (a := (c : Int)) (b := -1) (by omega) (by omega)).mp y
        omega
      rcases X6_learnFrom_c z6 O p2 K1 q1 q2 q3 q4 q5 (by omega) (by omega) with ⟨h', a1, a2, a3, a4⟩ | ⟨w, g, ix, t', s', ch', h2', a1, a2, a3, a4, a5, a6⟩
      · refine ⟨0, h', ?_, SF_t (SF_p p4) a3, ?_, Or.inl ⟨rfl, a2⟩⟩
        · refine Eq.trans (e_X6_canHold_84 ..) ?_
          rw [if_neg nc]
          show (mx_C mm_X6_learnFrom [.ref 33, .int (iI ((c : Int)))] hp).bind _ = _
          rw [a1]
          refine Eq.trans (e_X6_canHold_107 ..) ?_
          rw [if_pos rfl]
        · rw [a4, p2.1.2.1 0 (by omega), q3.1.1]; rfl
      · obtain ⟨k, hk⟩ : ∃ k, k = mkm (fun p => ∃ j, j < w ∧ g j = 2 * od p) := ⟨_, rfl⟩
        have kn : k ∉ L := by
          intro y
          refine IL_fresh q3 a6 (k := k) (fun p hp e => ?_) (il1 k y).2
          rw [hk] at e
          exact (mkm_t (by omega)).mp e
        have k2 := K0_LN q3.1 a6
        have em2 : eM s' ≤ eM s1 + 1 ∧ eF s' (eM s') ≤ eF s1 (eM s1) + 8 := by
          by_cases e : w = 1
          · rw [(a6.2.2.1 e).1]
            exact ⟨by show eM s1 ≤ _; omega, by show eF s1 (eM s1) ≤ _; omega⟩
          · obtain ⟨r0, r1⟩ := a6.2.2.2 (by have := a6.1.1; omega)
            rw [r1]
            refine ⟨by show eM s1 + 1 ≤ _; omega, ?_⟩
            have : eF (fin s1 g w) (eM s1 + 1) = eF s1 (eM s1) + w := if_pos rfl
            show eF (fin s1 g w) (eM s1 + 1) ≤ _
            omega
        have lv1 := lev_N q3.2.1 q3.2.2.2.1 O
        obtain ⟨b, h', r1, r2, r3, r4⟩ := ih s' ch' h2' (st + 1) (k :: L) (.int (bv (some c))) (by simp only [List.length_cons]; omega) (by simp only [List.length_cons]; omega) (List.nodup_cons.mpr ⟨kn, nd⟩) (fun k' hk' => by
          rcases List.mem_cons.mp hk' with e | e
          · rw [e, hk]
            exact ⟨(mkm_e _).1, IL_add O q3.1 q3.2.2.2.1 a6⟩
          · exact ⟨(il1 k' e).1, ILc_k k2 (il1 k' e).2⟩) (K0_t k1 k2) (by simp only [List.length_cons]; omega) (by simp only [List.length_cons]; omega) a2 a3 ⟨by rw [a4.1 33 3 (by omega)]; exact D1.1, fun p hp => by rw [a4.1 39 p (by omega)]; exact D1.2 p hp⟩ a5
        refine ⟨b, h', ?_, SF_t (SF_t (SF_p p4) a4) r2, r3, r4⟩
        refine Eq.trans (e_X6_canHold_84 ..) ?_
        rw [if_neg nc]
        show (mx_C mm_X6_learnFrom [.ref 33, .int (iI ((c : Int)))] hp).bind _ = _
        rw [a1]
        refine Eq.trans (e_X6_canHold_107 ..) ?_
        rw [if_neg (by decide)]
        refine Eq.trans (e_X6_canHold_112 ..) ?_
        rw [ii_s1]
        exact r1
end LP
