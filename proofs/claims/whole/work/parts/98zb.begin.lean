/-! the search: begin and loadMarked -/
theorem ii_m1 (u : Int) : iI u + (-1) = iI (u - 1) := by
  rw [show (-1 : Int32) = iI (-1) by decide, ii_add]
  exact congrArg iI (by omega)
def s00 : Se := (0, (fun _ => 0), (fun _ => 0), 0, (fun _ => 0), (fun _ => 0), 0)
theorem z2m (z : Nat) : (2 : Int32) * iI (z : Int) = iI ((2 * z : Nat) : Int) := by
  rw [show (2 : Int32) = iI 2 from rfl, ii_mul]; congr 1
theorem clear_14 {z : Nat} (z6 : z ≤ 1065) : ∀ (d l : Nat) (h : mx_H), l + d = 2 * z → (∀ l', l' < l → h.1 37 l' = -1) → ∃ h', mx_D (1, mm_X2_clear, 14, [.ref 34, .int (iI ((z : Int))), .int (iI ((l : Int)))], []) h = some (none, h') ∧ (∀ l', l' < 2 * z → h'.1 37 l' = -1) ∧ (∀ a k, a ≠ 37 → h'.1 a k = h.1 a k) ∧ h'.2 = h.2 := by
  intro d
  induction d with
  | zero =>
    intro l h hl H
    refine ⟨h, ?_, by rw [show 2 * z = l by omega]; exact H, fun _ _ _ => rfl, rfl⟩
    rw [e_X2_clear_14, z2m, if_pos ((ii_le (by omega)).mpr (by omega)), e_X2_clear_41]
  | succ d ih =>
    intro l h hl H
    obtain ⟨h', a1, a2, a3, a4⟩ := ih (l + 1) (mx_u h.1 37 l (-1), h.2.1, h.2.2) (by omega) (fun l' hl' => by
      dsimp only [mx_u]
      by_cases e : l' = l
      · rw [if_pos ⟨rfl, e⟩]
      · rw [if_neg (by omega)]; exact H l' (by omega))
    refine ⟨h', ?_, a2, fun a k p => by rw [a3 a k p]; dsimp only [mx_u]; rw [if_neg (by omega)], a4⟩
    rw [e_X2_clear_14, z2m, if_neg (fun y => by have := (ii_le (by omega)).mp y; omega), if_neg (show ¬ (2130 : Int32) ≤ iI (l : Int) from fun y => by have := (ii_le (a := 2130) (by omega)).mp y; omega), if_pos (in_ (by omega) (by decide)), cln (by omega), ii_s1]
    exact a1
theorem begin_16 {z : Nat} (z6 : z ≤ 1065) : ∀ (d l : Nat) (h : mx_H), l + d = z → h.1 22 5 = iI (z : Int) → (∀ l', l' < l → h.1 41 l' = iI 2 ∧ h.1 40 l' = iI 0) → ∃ h', mx_D (2, mm_X6_begin, 16, [.ref 33, .int (iI ((l : Int)))], []) h = some (none, h') ∧ (∀ l', l' < z → h'.1 41 l' = (if l' = 0 then iI 1 else iI 2) ∧ h'.1 40 l' = iI 0) ∧ h'.1 41 0 = iI 1 ∧ (h'.1 33 9 = iI 0 ∧ h'.1 33 10 = iI 0 ∧ h'.1 33 11 = iI 0) ∧ (∀ a k, a ≠ 40 → a ≠ 41 → (a ≠ 33 ∨ (k ≠ 9 ∧ k ≠ 10 ∧ k ≠ 11)) → h'.1 a k = h.1 a k) ∧ h'.2 = h.2 := by
  intro d
  induction d with
  | zero =>
    intro l h hl hz H
    have e : l = z := by omega
    rw [e] at H ⊢
    refine ⟨((mx_u (mx_u (mx_u (mx_u h.1 41 ((0 : Int32).toNatClampNeg) 1) 33 9 0) 33 10 0) 33 11 0), h.2.1, h.2.2), (by rw [e_X6_begin_16, hz, if_pos ((ii_le (by omega)).mpr (by omega)), e_X6_begin_54, if_pos (by decide)]), fun l' hl' => ?_, ?_, ⟨?_, ?_, ?_⟩, fun a k p1 p2 p3 => ?_, rfl⟩
    · have z0 : ((0 : Int32).toNatClampNeg) = 0 := rfl
      dsimp only [mx_u]
      rw [z0]
      refine ⟨?_, ?_⟩
      · rw [if_neg (by omega), if_neg (by omega), if_neg (by omega)]
        by_cases e : l' = 0
        · rw [if_pos ⟨rfl, e⟩, if_pos e]; rfl
        · rw [if_neg (by omega), if_neg e]; exact (H l' hl').1
      · rw [if_neg (by omega), if_neg (by omega), if_neg (by omega), if_neg (by omega)]
        exact (H l' hl').2
    · dsimp only [mx_u]; rw [if_neg (by decide), if_neg (by decide), if_neg (by decide), if_pos (by decide)]; rfl
    · dsimp only [mx_u]; rw [if_neg (by decide), if_neg (by decide), if_pos (by decide)]; rfl
    · dsimp only [mx_u]; rw [if_neg (by decide), if_pos (by decide)]; rfl
    · dsimp only [mx_u]; rw [if_pos (by decide)]; rfl
    · dsimp only [mx_u]
      rw [if_neg (by omega), if_neg (by omega), if_neg (by omega), if_neg (by omega)]
  | succ d ih =>
    intro l h hl hz H
    obtain ⟨h', a1, a2, a3, a4, a5, a6⟩ := ih (l + 1) (mx_u (mx_u h.1 41 l 2) 40 l (vp_nar .boolean 0), h.2.1, h.2.2) (by omega) (by dsimp only [mx_u]; rw [if_neg (by omega), if_neg (by omega)]; exact hz) (fun l' hl' => by
      dsimp only [mx_u]
      by_cases e : l' = l
      · rw [if_neg (by omega), if_pos ⟨rfl, e⟩, if_pos ⟨rfl, e⟩]
        exact ⟨rfl, rfl⟩
      · rw [if_neg (by omega), if_neg (by omega), if_neg (by omega), if_neg (by omega)]; exact H l' (by omega))
    refine ⟨h', ?_, a2, a3, a4, fun a k p1 p2 p3 => by rw [a5 a k p1 p2 p3]; dsimp only [mx_u]; rw [if_neg (by omega), if_neg (by omega)], a6⟩
    rw [e_X6_begin_16, hz, if_neg (fun y => by have := (ii_le (by omega)).mp y; omega), if_neg (show ¬ (1065 : Int32) ≤ iI (l : Int) from fun y => by have := (ii_le (a := 1065) (by omega)).mp y; omega), if_pos (in_ (by omega) (by decide)), if_pos (in_ (by omega) (by decide)), cln (by omega), ii_s1]
    exact a1
theorem X6_begin_c {z : Nat} {h : mx_H} (z6 : z ≤ 1065) (hz : h.1 22 5 = iI (z : Int)) (h36 : h.1 36 0 = 0) : ∃ h', mx_C mm_X6_begin [.ref 33] h = some (none, h') ∧ SeC z s00 (fun _ => []) h' ∧ MkC z (fun _ => False) h' ∧ SF h h' := by
  obtain ⟨h1, hh⟩ : ∃ h1 : mx_H, h1 = ((mx_u (mx_u h.1 34 2 0) 36 1 0), h.2.1, h.2.2) := ⟨_, rfl⟩
  have o1 : ∀ a k, (a ≠ 34 ∨ k ≠ 2) → (a ≠ 36 ∨ k ≠ 1) → h1.1 a k = h.1 a k := fun a k p1 p2 => by rw [hh]; dsimp only [mx_u]; rw [if_neg (by omega), if_neg (by omega)]
  have o2 : h1.1 34 2 = iI 0 := by rw [hh]; dsimp only [mx_u]; rw [if_neg (by omega), if_pos (by decide)]; rfl
  have o3 : h1.1 36 1 = iI 0 := by rw [hh]; dsimp only [mx_u]; rw [if_pos (by decide)]; rfl
  obtain ⟨h2, a1, a2, a3, a4⟩ := clear_14 z6 (2 * z) 0 h1 (by omega) (fun l' hl' => by omega)
  obtain ⟨h3, b1, b2, b6, b3, b4, b5⟩ := begin_16 z6 z 0 h2 (by omega) (by rw [a3 _ _ (by decide), o1 _ _ (by decide) (by decide)]; exact hz) (fun l' hl' => by omega)
  have fr : ∀ a k, a ≠ 37 → a ≠ 40 → a ≠ 41 → a ≠ 33 → h3.1 a k = h1.1 a k := fun a k p1 p2 p3 p4 => by rw [b4 a k p2 p3 (Or.inl p4), a3 a k p1]
  refine ⟨h3, ?_, ⟨⟨?_, ?_, ?_, ?_⟩, ⟨?_, ?_, ?_, ?_⟩, b3, ?_⟩, ?_, ⟨fun a k p => ?_, by rw [b5, a4, hh]⟩⟩
  · rw [c_X6_begin, e_X6_begin_0, hz, c_X2_clear, e_X2_clear_0, if_pos (by decide)]
    show (mx_D (1, mm_X2_clear, 14, [.ref 34, .int (iI ((z : Int))), .int (iI (((0 : Nat) : Int)))], []) ((mx_u (mx_u h.1 34 2 0) 36 1 0), h.2.1, h.2.2)).bind _ = _
    rw [← hh, a1]
    refine Eq.trans (e_X6_begin_14 ..) ?_
    exact b1
  · rw [fr _ _ (by omega) (by omega) (by omega) (by omega)]; exact o2
  · intro c hc
    have hc : c ≤ 0 := hc
    rw [show c = 0 by omega, fr _ _ (by omega) (by omega) (by omega) (by omega), o1 _ _ (by omega) (by omega), h36]
    rfl
  · show h3.1 36 1 = _
    rw [fr _ _ (by omega) (by omega) (by omega) (by omega)]; exact o3
  · intro p hp
    exact absurd hp (Nat.not_lt_zero _)
  · intro i hi
    exact absurd hi (Nat.not_lt_zero _)
  · intro i hi
    exact absurd hi (Nat.not_lt_zero _)
  · intro g g1 g2 _
    rw [(b2 g g2).1, if_neg (by omega)]
  · exact b6
  · intro l hl
    refine ⟨?_, List.nodup_nil, fun k => ⟨fun q => absurd q (by simp), fun q => absurd q.1 (Nat.not_lt_zero _)⟩⟩
    show h3.1 37 l = -1
    rw [b4 _ _ (by omega) (by omega) (by omega)]
    exact a2 l hl
  · exact fun g hg => Or.inr ⟨fun q => q, (b2 g hg).2⟩
  · rw [b4 a k (by omega) (by omega) (by omega), a3 a k (by omega), o1 a k (by omega) (by omega)]
section LM
variable {z : Nat} {gs : Nat → Gt}
theorem gal_inv {I : Nat → Prop} {v : Nat} (h : gal z gs I v) : v = 0 ∨ ((1 ≤ v ∧ v ≤ 8) ∧ I v) ∨ (9 ≤ v ∧ v < z ∧ gal z gs I (gC (gs v) / 2) ∧ gal z gs I (gL (gs v) / 2) ∧ gal z gs I (gR (gs v) / 2)) := by
  obtain ⟨S, s1, s2⟩ := h
  rcases s2 v s1 with q | q | ⟨q1, q2, q3, q4, q5⟩
  · exact Or.inl q
  · exact Or.inr (Or.inl q)
  · exact Or.inr (Or.inr ⟨q1, q2, ⟨S, q3, s2⟩, ⟨S, q4, s2⟩, ⟨S, q5, s2⟩⟩)
/-- what is told when the gates from i on are done -/
def LJ (z : Nat) (gs : Nat → Gt) (Ip : Nat → Prop) (s0 s : Se) (M D : Nat → Prop) (i : Nat) : Prop := clI z s ∧ (eM s + 4 * i ≤ 4 * z ∧ eF s (eM s) + 12 * i ≤ 12 * z) ∧ (eT s = eT s0 ∧ eX s = eX s0 ∧ eR s = eR s0 ∧ eQ s = eQ s0) ∧ (∀ u, M u → u < i) ∧ (∀ u, D u → (9 ≤ u ∧ u < z) ∧ (∀ L, L ∈ tcl (gs u) u → ∃ c, c < eM s ∧ ∀ l, inC s c l ↔ l ∈ L) ∧ ∀ v, v = gC (gs u) / 2 ∨ v = gL (gs u) / 2 ∨ v = gR (gs u) / 2 → M v ∨ D v) ∧ (∀ c, c < eM s → ∃ u L, (9 ≤ u ∧ u < z) ∧ L ∈ tcl (gs u) u ∧ ∀ l, inC s c l ↔ l ∈ L) ∧ (∀ j, j < eT s → M (eX s j / 2) ∨ D (eX s j / 2)) ∧ ∀ v, M v ∨ D v → gal z gs Ip v
theorem MkC_k {M : Nat → Prop} {h h' : mx_H} (K : MkC z M h) (e : ∀ k, h'.1 40 k = h.1 40 k) : MkC z M h' := fun g hg => by rw [e]; exact K g hg
theorem load_122 {v2 v3 v4 : Value} {M : Nat → Prop} : ∀ (d l : Nat) (h : mx_H), l + d = 9 → (∀ u, M u → u < 9) → MkC z (fun u => M u ∧ l ≤ u) h → ∃ h', mx_D (5, mm_X6_loadMarked, 122, [.ref 33, .int (iI ((l : Int))), v2, v3, v4], []) h = some (none, h') ∧ MkC z (fun _ => False) h' ∧ M4F h h' := by
  intro d
  induction d with
  | zero =>
    intro l h hl M9 K
    refine ⟨h, ?_, MkC_e (fun g => ⟨fun q => by have := M9 g q.1; omega, fun q => q.elim⟩) K, fun _ _ _ => rfl, rfl⟩
    rw [e_X6_loadMarked_122, if_pos (show (9 : Int32) ≤ iI (l : Int) from (ii_le (a := 9) (by omega)).mpr (by omega))]
  | succ d ih =>
    intro l h hl M9 K
    have K1 := MkC_e (M' := fun u => M u ∧ l + 1 ≤ u) (fun g => ⟨fun q => ⟨q.1.1, by have := q.1.2; have := q.2; omega⟩, fun q => ⟨⟨q.1, by omega⟩, by omega⟩⟩) (MkC_0 (u := l) K)
    obtain ⟨h', a1, a2, a3⟩ := ih (l + 1) _ (by omega) M9 K1
    refine ⟨h', ?_, a2, fun a k p => by rw [a3.1 a k p]; dsimp only [mx_u]; rw [if_neg (by omega)], a3.2⟩
    rw [e_X6_loadMarked_122, if_neg (fun y => by have := (ii_le (a := 9) (by omega)).mp y; omega), if_pos (in_ (by omega) (by decide)), cln (by omega), ii_s1]
    exact a1
theorem load_10 (z6 : z ≤ 1065) (W : GW z gs) {Ip : Nat → Prop} {s0 : Se} : ∀ (i : Nat) (s : Se) (ch : Nat → List Nat) (M D : Nat → Prop) (h : mx_H) (v2 v3 v4 : Value), 9 ≤ i → i ≤ z → ClC s h → ChR z s ch [] h → GtC z gs h.1 → MkC z M h → LJ z gs Ip s0 s M D i → ∃ s' ch' M' D' h', mx_D (5, mm_X6_loadMarked, 10, [.ref 33, .int (iI ((i : Int) - 1)), v2, v3, v4], []) h = some (none, h') ∧ ClC s' h' ∧ ChR z s' ch' [] h' ∧ MkC z (fun _ => False) h' ∧ LJ z gs Ip s0 s' M' D' 9 ∧ (∀ a k, ¬ (34 ≤ a ∧ a ≤ 38) → a ≠ 40 → h'.1 a k = h.1 a k) ∧ h'.2 = h.2 := by
  intro i
  induction i with
  | zero => intro s ch M D h v2 v3 v4 i9; omega
  | succ u ih =>
    intro s ch M D h v2 v3 v4 i9 iz C K G Mk J
    rw [show ((u + 1 : Nat) : Int) - 1 = (u : Int) by omega, e_X6_loadMarked_10]
    obtain ⟨J1, J2, J3, J4, J5, J6, J7, J8⟩ := J
    by_cases u9 : u < 9
    · rw [if_pos (show iI (u : Int) < 9 from (ii_lt (b := 9) (by omega)).mpr (by omega))]
      obtain ⟨h', a1, a2, a3⟩ := load_122 (v2 := v2) (v3 := v3) (v4 := v4) (M := M) 9 0 h (by omega) (fun v hv => by have := J4 v hv; omega) (MkC_e (fun g => ⟨fun q => ⟨q, by omega⟩, fun q => q.1⟩) Mk)
      refine ⟨s, ch, M, D, h', a1, ClC_k C (fun a k p1 p2 => a3.1 a k (by omega)), ChR_k K (fun a k p => a3.1 a k (by omega)) rfl (fun _ => rfl), a2, ?_, fun a k _ p => a3.1 a k p, a3.2⟩
      rw [show u + 1 = 9 by omega] at J2 J4
      exact ⟨J1, J2, J3, J4, J5, J6, J7, J8⟩
    · rw [if_neg (fun y => by have := (ii_lt (b := 9) (by omega)).mp y; omega), if_pos (in_ (by omega) (by decide)), cln (by omega)]
      rcases Mk u (by omega) with ⟨m1, m2⟩ | ⟨m1, m2⟩
      · rw [m2, if_neg (by decide), if_pos (in_ (by omega) (by decide)), if_pos (in_ (by omega) (by decide)), if_pos (in_ (by omega) (by decide)), if_pos (in_ (by omega) (by decide))]
        obtain ⟨G1, G2, G3, G4⟩ := G
        obtain ⟨g1, g2, g3, g4⟩ := G4 u (by omega) (by omega)
        obtain ⟨w1, w2, w3, w4, w5⟩ := W u (by omega) (by omega)
        have wc : gC (gs u) / 2 < u := by
          by_cases k : gK (gs u) = 2
          · exact (w5 k).1.2
          · rw [(w4 (by omega)).1]; omega
        have c26 : (mx_u h.1 40 u (vp_nar .boolean 0)) 26 u = iI (gC (gs u) : Int) := by dsimp only [mx_u]; rw [if_neg (by omega)]; exact g2
        have c24 : (mx_u h.1 40 u (vp_nar .boolean 0)) 24 u = iI (gL (gs u) : Int) := by dsimp only [mx_u]; rw [if_neg (by omega)]; exact g3
        have c25 : (mx_u h.1 40 u (vp_nar .boolean 0)) 25 u = iI (gR (gs u) : Int) := by dsimp only [mx_u]; rw [if_neg (by omega)]; exact g4
        have hc : iI (gC (gs u) : Int) >>> (1 &&& 31) = iI ((gC (gs u) / 2 : Nat) : Int) := ii_h (by omega)
        have ha : iI (gL (gs u) : Int) >>> (1 &&& 31) = iI ((gL (gs u) / 2 : Nat) : Int) := ii_h (by omega)
        have hb : iI (gR (gs u) : Int) >>> (1 &&& 31) = iI ((gR (gs u) / 2 : Nat) : Int) := ii_h (by omega)
        rw [c26, c24, c25, hc, ha, hb, if_pos (in_ (by omega) (by decide)), if_pos (in_ (by omega) (by decide)), if_pos (in_ (by omega) (by decide)), if_pos (in_ (by omega) (by decide)), cln (i := gC (gs u) / 2) (by omega), cln (i := gL (gs u) / 2) (by omega), cln (i := gR (gs u) / 2) (by omega)]
        obtain ⟨h1, hh⟩ : ∃ h1 : mx_H, h1 = ((mx_u (mx_u (mx_u (mx_u h.1 40 u (vp_nar .boolean 0)) 40 (gC (gs u) / 2) (vp_nar .boolean 1)) 40 (gL (gs u) / 2) (vp_nar .boolean 1)) 40 (gR (gs u) / 2) (vp_nar .boolean 1)), h.2.1, h.2.2) := ⟨_, rfl⟩
        have fr : ∀ a k, a ≠ 40 → h1.1 a k = h.1 a k := fun a k p => by rw [hh]; dsimp only [mx_u]; rw [if_neg (by omega), if_neg (by omega), if_neg (by omega), if_neg (by omega)]
        have c23 : (mx_u (mx_u (mx_u (mx_u h.1 40 u (vp_nar .boolean 0)) 40 (gC (gs u) / 2) (vp_nar .boolean 1)) 40 (gL (gs u) / 2) (vp_nar .boolean 1)) 40 (gR (gs u) / 2) (vp_nar .boolean 1)) 23 u = iI (gK (gs u) : Int) := by
          have := fr 23 u (by decide)
          rw [hh, g1] at this
          exact this
        rw [c23, ← hh, show (2 : Int32) * iI (u : Int) = iI ((2 * u : Nat) : Int) from by rw [show (2 : Int32) = iI 2 from rfl, ii_mul]; congr 1]
        have Mk1 : MkC z (fun g => (((M g ∧ g ≠ u) ∨ g = gC (gs u) / 2) ∨ g = gL (gs u) / 2) ∨ g = gR (gs u) / 2) h1 := by
          rw [hh]
          exact MkC_1 (MkC_1 (MkC_1 (MkC_0 Mk)))
        obtain ⟨s1, ch1, h2, t1, t2, t3, t4, t5⟩ := X2_tell_c z6 W (u := u) ⟨by omega, by omega⟩ J1 (ClC_k C (h' := h1) (fun a k p1 p2 => fr a k (by omega))) (ChR_k K (fun a k p => fr a k (by omega)) rfl (fun _ => rfl)) (by omega) (by omega)
        obtain ⟨T1, T2, T3, T4, T5, T6, T7, T8, T9, T10⟩ := t5
        have l4 : (tcl (gs u) u).length ≤ 4 := by
          unfold tcl
          split
          · simp
          · split <;> simp
        obtain ⟨s2, ch2, M2, D2, h3, r1, r2, r3, r4, r5, r6, r7⟩ := ih s1 ch1 (fun g => (((M g ∧ g ≠ u) ∨ g = gC (gs u) / 2) ∨ g = gL (gs u) / 2) ∨ g = gR (gs u) / 2) (fun g => D g ∨ g = u) h2 (.int (iI ((gC (gs u) : Int)))) (.int (iI ((gL (gs u) : Int)))) (.int (iI ((gR (gs u) : Int)))) (by omega) (by omega) t2 t3 (by
          have f2 : ∀ a k, a < 34 → h2.1 a k = h.1 a k := fun a k p => by rw [t4.1 a k (by omega), fr a k (by omega)]
          refine ⟨by rw [f2 _ _ (by decide)]; exact G1, G2, G3, fun g p1 p2 => ?_⟩
          rw [f2 _ _ (by decide), f2 _ _ (by decide), f2 _ _ (by decide), f2 _ _ (by decide)]
          exact G4 g p1 p2) (MkC_k Mk1 (fun k => t4.1 _ _ (by decide))) (by
          refine ⟨T1, ⟨by omega, by omega⟩, ⟨by rw [T7]; exact J3.1, by rw [T8]; exact J3.2.1, by rw [T9]; exact J3.2.2.1, by rw [T10]; exact J3.2.2.2⟩, fun v hv => ?_, fun v hv => ?_, fun c hc => ?_, fun j hj => ?_, fun v hv => ?_⟩
          · rcases hv with ((q | q) | q) | q
            · have := J4 v q.1
              have := q.2
              omega
            · omega
            · omega
            · omega
          · rcases hv with q | q
            · obtain ⟨d1, d2, d3⟩ := J5 v q
              refine ⟨d1, fun L hL => ?_, fun o ho => ?_⟩
              · obtain ⟨c, c1, c2⟩ := d2 L hL
                exact ⟨c, by omega, fun l => by rw [T4 c c1 l, c2 l]⟩
              · rcases d3 o ho with x | x
                · by_cases e : o = u
                  · exact Or.inr (Or.inr e)
                  · exact Or.inl (Or.inl (Or.inl (Or.inl ⟨x, e⟩)))
                · exact Or.inr (Or.inl x)
            · rw [q]
              refine ⟨⟨by omega, by omega⟩, T5, fun o ho => ?_⟩
              rcases ho with x | x | x
              · exact Or.inl (Or.inl (Or.inl (Or.inr x)))
              · exact Or.inl (Or.inl (Or.inr x))
              · exact Or.inl (Or.inr x)
          · by_cases e : c < eM s
            · obtain ⟨v, L, q1, q2, q3⟩ := J6 c e
              exact ⟨v, L, q1, q2, fun l => by rw [T4 c e l, q3 l]⟩
            · obtain ⟨L, q1, q2⟩ := T6 c (by omega) hc
              exact ⟨u, L, ⟨by omega, by omega⟩, q1, q2⟩
          · rw [T7] at hj
            rw [T8]
            rcases J7 j hj with x | x
            · by_cases e : eX s j / 2 = u
              · exact Or.inr (Or.inr e)
              · exact Or.inl (Or.inl (Or.inl (Or.inl ⟨x, e⟩)))
            · exact Or.inr (Or.inl x)
          · have gu := gal_inv (J8 u (Or.inl m1))
            have gu : gal z gs Ip (gC (gs u) / 2) ∧ gal z gs Ip (gL (gs u) / 2) ∧ gal z gs Ip (gR (gs u) / 2) := by
              rcases gu with q | q | q
              · omega
              · have := q.1; omega
              · exact q.2.2
            rcases hv with (((q | q) | q) | q) | q | q
            · exact J8 v (Or.inl q.1)
            · rw [q]; exact gu.1
            · rw [q]; exact gu.2.1
            · rw [q]; exact gu.2.2
            · exact J8 v (Or.inr q)
            · rw [q]; exact J8 u (Or.inl m1))
        refine ⟨s2, ch2, M2, D2, h3, ?_, r2, r3, r4, r5, fun a k p1 p2 => by rw [r6 a k p1 p2, t4.1 a k p1, fr a k p2], by rw [r7, t4.2, hh]⟩
        rw [t1]
        refine Eq.trans (e_X6_loadMarked_114 ..) ?_
        rw [ii_m1]
        exact r1
      · rw [m2, if_pos (by decide)]
        obtain ⟨s2, ch2, M2, D2, h3, r1, r2, r3, r4, r5, r6, r7⟩ := ih s ch M D h v2 v3 v4 (by omega) (by omega) C K G Mk (by
          refine ⟨J1, ⟨by omega, by omega⟩, J3, fun v hv => ?_, J5, J6, J7, J8⟩
          have := J4 v hv
          have : v ≠ u := fun e => m1 (by rw [← e]; exact hv)
          omega)
        refine ⟨s2, ch2, M2, D2, h3, ?_, r2, r3, r4, r5, r6, r7⟩
        rw [e_X6_loadMarked_114, ii_m1]
        exact r1
theorem X6_loadMarked_c (z6 : z ≤ 1065) (W : GW z gs) {Ip : Nat → Prop} {s : Se} {ch : Nat → List Nat} {M : Nat → Prop} {h : mx_H} (C : ClC s h) (K : ChR z s ch [] h) (G : GtC z gs h.1) (Mk : MkC z M h) (J : LJ z gs Ip s s M (fun _ => False) z) : ∃ s' ch' M' D' h', mx_C mm_X6_loadMarked [.ref 33] h = some (none, h') ∧ ClC s' h' ∧ ChR z s' ch' [] h' ∧ MkC z (fun _ => False) h' ∧ LJ z gs Ip s s' M' D' 9 ∧ (∀ a k, ¬ (34 ≤ a ∧ a ≤ 38) → a ≠ 40 → h'.1 a k = h.1 a k) ∧ h'.2 = h.2 := by
  obtain ⟨s2, ch2, M2, D2, h3, r1, r2⟩ := load_10 z6 W z s ch M (fun _ => False) h mx_junk mx_junk mx_junk G.2.1 (Nat.le_refl _) C K G Mk J
  refine ⟨s2, ch2, M2, D2, h3, ?_, r2⟩
  rw [c_X6_loadMarked, e_X6_loadMarked_0, G.1, show iI (z : Int) - 1 = iI ((z : Int) - 1) from ii_sub _ 1]
  exact r1
end LM
