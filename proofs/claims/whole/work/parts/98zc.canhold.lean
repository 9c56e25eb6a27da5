/-! the search: canHold -/
def SolR (gs : Nat → Gt) (rl : Nat → Nat) (cm : Nat) (x : Int) : Prop := ∀ k, k < 12 → cm / 2 ^ k % 2 = 1 → lv gs x (rl k) = true
theorem dcn_z {R : Nat → Int} : ∀ i, (∀ j, j < i → R j ≠ -2) → dcn R i = 0 := by
  intro i
  induction i with
  | zero => intro _; rfl
  | succ i ih =>
    intro H
    show dcn R i + (if R i = -2 then 1 else 0) = 0
    rw [ih (fun j hj => H j (by omega)), if_neg (H i (by omega))]
theorem truth_c {z : Nat} {s : Se} {h : mx_H} {l : Nat} (C : TrC z s h) (hl : l / 2 = 0) : mx_C mm_X6_truthOf [.ref 33, .int (iI ((l : Int)))] h = some (some (.int (iI ((1 - l % 2 : Nat) : Int))), h) := by
  have v := C.2.2.2
  rw [c_X6_truthOf, e_X6_truthOf_0, ii_h (by omega), if_pos (of_eq_true (ii_in (by omega))), cln (by omega), hl, v, if_neg (by decide), e_X6_truthOf_23, show iI (l : Int) &&& 1 = iI ((l : Int) % 2) from ii_and1 _]
  have : l % 2 = 0 ∨ l % 2 = 1 := by omega
  rcases this with e | e
  · rw [e, show (l : Int) % 2 = 0 by omega]; rfl
  · rw [e, show (l : Int) % 2 = 1 by omega]; rfl
section CH
variable {z : Nat} {gs : Nat → Gt} {N : Nat} {od : Nat → Nat}
def RJ (z : Nat) (rl : Nat → Nat) (cm k : Nat) (s : Se) : Prop := (eM s = 0 ∧ eF s = (fun _ => 0) ∧ eQ s = 0) ∧ trI z s ∧ (∀ i, i < eT s → eR s i = -1 ∧ ∃ k', k' < 12 ∧ cm / 2 ^ k' % 2 = 1 ∧ eX s i = rl k') ∧ ∀ k', k' < k → cm / 2 ^ k' % 2 = 1 → rl k' = 0 ∨ ∃ i, i < eT s ∧ eX s i = rl k'
theorem canHold_6 (z6 : z ≤ 1065) {rl : Nat → Nat} {cm : Nat} (hcm : cm < 65536) (Rz : ∀ k, k < 12 → cm / 2 ^ k % 2 = 1 → rl k / 2 < z) : ∀ (d k : Nat) (s : Se) (h : mx_H) (v4 : Value), k + d = 12 → (∀ k, k < 12 → cm / 2 ^ k % 2 = 1 → h.1 46 k = iI (rl k : Int)) → RJ z rl cm k s → SeC z s (fun _ => []) h → MkC z (fun u => ∃ i, i < eT s ∧ eX s i / 2 = u) h → (∃ h', mx_D (14, mm_X6_canHold, 6, [.ref 33, .ref 46, .int (iI ((cm : Int))), .int (iI ((k : Int))), v4], []) h = some (some (.int 0), h') ∧ SF h h' ∧ h'.1 36 0 = 0 ∧ ∀ x, ¬ SolR gs rl cm x) ∨ ∃ s' h' v4', mx_D (14, mm_X6_canHold, 6, [.ref 33, .ref 46, .int (iI ((cm : Int))), .int (iI ((k : Int))), v4], []) h = (mx_C mm_X6_loadMarked [.ref 33] h').bind (fun o => mx_D (14, mm_X6_canHold, 72, [.ref 33, .ref 46, .int (iI ((cm : Int))), .int (iI (12)), v4'], o.1.toList ++ []) o.2) ∧ RJ z rl cm 12 s' ∧ SeC z s' (fun _ => []) h' ∧ MkC z (fun u => ∃ i, i < eT s' ∧ eX s' i / 2 = u) h' ∧ SF h h' := by
  intro d
  induction d with
  | zero =>
    intro k s h v4 hk R J C K
    right
    have e : k = 12 := by omega
    rw [e] at J ⊢
    refine ⟨s, h, v4, ?_, J, C, K, SF_r h⟩
    rw [e_X6_canHold_6, if_pos (by decide)]
    rfl
  | succ d ih =>
    intro k s h v4 hk R J C K
    have bit : (iI (cm : Int) >>> (iI (k : Int) &&& 31)) &&& 1 = iI ((cm / 2 ^ k % 2 : Nat) : Int) := by
      rw [nn_sh (by omega) hcm, k1n]
    have h12 : ¬ (12 : Int32) ≤ iI (k : Int) := fun y => by have := (ii_le (a := 12) (by omega)).mp y; omega
    rw [e_X6_canHold_6, if_neg h12, bit]
    have m2 : cm / 2 ^ k % 2 < 2 := Nat.mod_lt _ (by decide)
    by_cases bk : cm / 2 ^ k % 2 = 1
    · rw [if_pos (by rw [bk]; rfl), if_pos (in_ (by omega) (by decide)), cln (by omega), R k (by omega) bk]
      have lz := Rz k (by omega) bk
      obtain ⟨J1, J2, J3, J4⟩ := J
      have Tl := tr_l6 J2 z6
      by_cases l0 : rl k / 2 = 0
      · rw [truth_c C.2.1 l0]
        by_cases l1 : rl k % 2 = 0
        · have e0 : rl k = 0 := by omega
          have J' : RJ z rl cm (k + 1) s := ⟨J1, J2, J3, fun k' hk' b => by
            by_cases e : k' = k
            · rw [e]; exact Or.inl e0
            · exact J4 k' (by omega) b⟩
          have st : (some (some (.int (iI ((1 - rl k % 2 : Nat) : Int))), h) : Option mx_O).bind (fun o => mx_D (14, mm_X6_canHold, 28, [.ref 33, .ref 46, .int (iI ((cm : Int))), .int (iI ((k : Int))), v4], o.1.toList ++ []) o.2) = mx_D (14, mm_X6_canHold, 6, [.ref 33, .ref 46, .int (iI ((cm : Int))), .int (iI (((k + 1 : Nat) : Int))), .int (iI ((1 - rl k % 2 : Nat) : Int))], []) h := by
            rw [l1]
            refine Eq.trans (e_X6_canHold_28 ..) ?_
            rw [if_neg (by decide), if_neg (by decide)]
            refine Eq.trans (e_X6_canHold_62 ..) ?_
            rw [ii_s1]
          rw [st]
          exact ih (k + 1) s h _ (by omega) R J' C K
        · left
          refine ⟨h, ?_, SF_r h, ?_, fun x hx => ?_⟩
          · rw [show rl k % 2 = 1 by omega]
            refine Eq.trans (e_X6_canHold_28 ..) ?_
            rw [if_pos (by decide)]
          · rw [C.1.2.1 0 (by omega), J1.2.1]; rfl
          · have := hx k (by omega) bk
            rw [show rl k = 1 by omega, lv_1] at this
            exact absurd this (by decide)
      · rcases tv_cases s (rl k) with ⟨i, i1, i2⟩ | ⟨i, i1, i2⟩ | nn
        · rw [truth_1 C.2.1 (by omega) ⟨i1, i2⟩]
          have J' : RJ z rl cm (k + 1) s := ⟨J1, J2, J3, fun k' hk' b => by
            by_cases e : k' = k
            · rw [e]; exact Or.inr ⟨i, i1, i2⟩
            · exact J4 k' (by omega) b⟩
          have st : (some (some (.int 1), h) : Option mx_O).bind (fun o => mx_D (14, mm_X6_canHold, 28, [.ref 33, .ref 46, .int (iI ((cm : Int))), .int (iI ((k : Int))), v4], o.1.toList ++ []) o.2) = mx_D (14, mm_X6_canHold, 6, [.ref 33, .ref 46, .int (iI ((cm : Int))), .int (iI (((k + 1 : Nat) : Int))), .int 1], []) h := by
            refine Eq.trans (e_X6_canHold_28 ..) ?_
            rw [if_neg (by decide), if_neg (by decide)]
            refine Eq.trans (e_X6_canHold_62 ..) ?_
            rw [ii_s1]
          rw [st]
          exact ih (k + 1) s h _ (by omega) R J' C K
        · left
          rw [truth_0 C.2.1 (by omega) ⟨i1, i2⟩]
          refine ⟨h, ?_, SF_r h, ?_, fun x hx => ?_⟩
          · refine Eq.trans (e_X6_canHold_28 ..) ?_
            rw [if_pos rfl]
          · rw [C.1.2.1 0 (by omega), J1.2.1]; rfl
          · have a := hx k (by omega) bk
            obtain ⟨_, k', q1, q2, q3⟩ := J3 i i1
            have b := hx k' q1 q2
            rw [← q3, i2, lv_ng, a] at b
            exact absurd b (by decide)
        · rw [truth_2 C.2.1 ⟨by omega, by omega⟩ nn]
          have dz : dcn (eR s) (eT s) = 0 := dcn_z _ (fun j hj => by rw [(J3 j hj).1]; decide)
          obtain ⟨h1, a1, a2, a3, a4⟩ := X6_assign_c (l := rl k) (r := -1) (Lv := 0) C.2.1 C.2.2.1.1 (by rw [C.2.2.1.2.2, dz]) ⟨by omega, by omega⟩ nn Tl (by rw [dz]; rfl)
          obtain ⟨h2, hh⟩ : ∃ h2 : mx_H, h2 = (mx_u h1.1 40 (rl k / 2) (iI 1), h1.2.1, h1.2.2) := ⟨_, rfl⟩
          have fr : ∀ a k, a ≠ 40 → h2.1 a k = h1.1 a k := fun a k p => by rw [hh]; dsimp only [mx_u]; rw [if_neg (by omega)]
          have fr2 : ∀ a k, ¬ (40 ≤ a ∧ a ≤ 44) → (a ≠ 33 ∨ k ≠ 9) → h2.1 a k = h.1 a k := fun a k p q => by rw [fr a k (by omega), a4.1 a k (by omega) q]
          have F : SF h h2 := ⟨fun a k p => fr2 a k (by omega) (by omega), by rw [hh]; exact a4.2⟩
          have K1 : MkC z (fun u => ∃ i, i < eT s ∧ eX s i / 2 = u) h1 := MkC_k K (fun k => a4.1 _ _ (by omega) (by omega))
          have K2 : MkC z (fun u => ∃ i, i < eT (asg s (rl k) (-1)) ∧ eX (asg s (rl k) (-1)) i / 2 = u) h2 := by
            rw [hh]
            refine MkC_e (fun g => ⟨fun q => ?_, fun q => ?_⟩) (MkC_1 (u := rl k / 2) K1)
            · rcases q with ⟨i, i1, i2⟩ | q
              · exact ⟨i, by show i < eT s + 1; omega, by rw [asg_X i1]; exact i2⟩
              · exact ⟨eT s, by show eT s < eT s + 1; omega, by rw [asg_Xn, q]⟩
            · obtain ⟨i, i1, i2⟩ := q
              have i1 : i < eT s + 1 := i1
              by_cases e : i = eT s
              · rw [e, asg_Xn] at i2; exact Or.inr i2.symm
              · rw [asg_X (by omega)] at i2; exact Or.inl ⟨i, by omega, i2⟩
          have C2 : SeC z (asg s (rl k) (-1)) (fun _ => []) h2 := by
            refine ⟨ClC_k (s := s) C.1 (fun a k p1 p2 => fr2 a k (by omega) (by omega)), TrC_k a2 (fun a k p1 p2 => fr a k (by omega)), ⟨by rw [fr _ _ (by decide)]; exact a3, by rw [fr2 _ _ (by omega) (by omega)]; exact C.2.2.1.2.1, ?_⟩, ChR_k (s := s) C.2.2.2 (fun a k p => fr2 a k (by omega) (by omega)) rfl (fun _ => rfl)⟩
            have x : dcn (eR (asg s (rl k) (-1))) (eT s + 1) = dcn (eR s) (eT s) + (if (-1 : Int) = -2 then 1 else 0) := asg_dn
            show h2.1 33 11 = iI (dcn (eR (asg s (rl k) (-1))) (eT s + 1) : Int)
            rw [x, if_neg (by decide), fr2 _ _ (by omega) (by omega)]
            exact C.2.2.1.2.2
          have J' : RJ z rl cm (k + 1) (asg s (rl k) (-1)) := by
            refine ⟨J1, trI_asg J2 ⟨by omega, lz⟩ nn, fun i hi => ?_, fun k' hk' b => ?_⟩
            · have hi : i < eT s + 1 := hi
              by_cases e : i = eT s
              · rw [e, asg_Xn, asg_Rn]; exact ⟨rfl, k, by omega, bk, rfl⟩
              · rw [asg_X (by omega), asg_R (by omega)]; exact J3 i (by omega)
            · by_cases e : k' = k
              · rw [e]; exact Or.inr ⟨eT s, by show eT s < eT s + 1; omega, asg_Xn⟩
              · rcases J4 k' (by omega) b with q | ⟨i, i1, i2⟩
                · exact Or.inl q
                · exact Or.inr ⟨i, by show i < eT s + 1; omega, by rw [asg_X i1]; exact i2⟩
          have st : (some (some (.int 2), h) : Option mx_O).bind (fun o => mx_D (14, mm_X6_canHold, 28, [.ref 33, .ref 46, .int (iI ((cm : Int))), .int (iI ((k : Int))), v4], o.1.toList ++ []) o.2) = mx_D (14, mm_X6_canHold, 6, [.ref 33, .ref 46, .int (iI ((cm : Int))), .int (iI (((k + 1 : Nat) : Int))), .int 2], []) h2 := by
            refine Eq.trans (e_X6_canHold_28 ..) ?_
            have r46 : h1.1 46 k = iI (rl k : Int) := by rw [a4.1 _ _ (by omega) (by omega)]; exact R k (by omega) bk
            rw [if_neg (by decide), if_pos rfl, if_pos (in_ (by omega) (by decide)), cln (by omega), R k (by omega) bk]
            show (mx_C mm_X6_assign [.ref 33, .int (iI ((rl k : Int))), .int (iI (-1))] h).bind _ = _
            rw [a1]
            refine Eq.trans (e_X6_canHold_51 ..) ?_
            rw [if_pos (in_ (by omega) (by decide)), cln (i := k) (by omega), r46, ii_h (by omega), if_pos (in_ (by omega) (by decide)), cln (by omega)]
            refine Eq.trans (e_X6_canHold_62 ..) ?_
            rw [ii_s1, hh]
            rfl
          rw [st]
          rcases ih (k + 1) (asg s (rl k) (-1)) h2 (.int 2) (by omega) (fun k p1 p2 => by rw [fr2 _ _ (by omega) (by omega)]; exact R k p1 p2) J' C2 K2 with ⟨h', r1, r2, r3, r4⟩ | ⟨s', h', v4', r1, r2, r3, r4, r5⟩
          · exact Or.inl ⟨h', r1, SF_t F r2, r3, r4⟩
          · exact Or.inr ⟨s', h', v4', r1, r2, r3, r4, SF_t F r5⟩
    · rw [if_neg (fun y => by have := (ii_eq (b := 1) (by omega) (by omega)).mp y; omega), e_X6_canHold_62, ii_s1]
      exact ih (k + 1) s h _ (by omega) R ⟨J.1, J.2.1, J.2.2.1, fun k' hk' b => by
        by_cases e : k' = k
        · rw [e] at b; exact absurd b bk
        · exact J.2.2.2 k' (by omega) b⟩ C K
theorem X6_canHold_c (z6 : z ≤ 1065) (W : GW z gs) {rl : Nat → Nat} {cm : Nat} {h : mx_H} (hcm : cm < 65536) (G : GtC z gs h.1) (O : odI N od) (D : OdC N od h) (R : ∀ k, k < 12 → cm / 2 ^ k % 2 = 1 → h.1 46 k = iI (rl k : Int)) (Rz : ∀ k, k < 12 → cm / 2 ^ k % 2 = 1 → rl k / 2 < z) (Rg : ∀ k, k < 12 → cm / 2 ^ k % 2 = 1 → gal z gs (fun u => ∃ p, p < N ∧ od p = u) (rl k / 2)) (h36 : h.1 36 0 = 0) : ∃ b h', mx_C mm_X6_canHold [.ref 33, .ref 46, .int (iI ((cm : Int)))] h = some (some (.int b), h') ∧ SF h h' ∧ h'.1 36 0 = 0 ∧ ((b = 0 ∧ ∀ x, ¬ SolR gs rl cm x) ∨ (b = 1 ∧ ∃ x : Nat, x < 256 ∧ (∀ i, i < 8 → (h'.1 41 (1 + i) = 1 ↔ xb (x : Int) i = true)) ∧ SolR gs rl cm (x : Int) ∧ ∀ y, SolR gs rl cm y → ∀ p, p < N → (∀ p', p' < p → xb y (od p' - 1) = xb (x : Int) (od p' - 1)) → xb (x : Int) (od p - 1) = true → xb y (od p - 1) = true)) := by
  have z9 := G.2.1
  have N8 := O.1
  obtain ⟨h1, b1, b2, b3, b4⟩ := X6_begin_c z6 G.1 h36
  have call : mx_C mm_X6_canHold [.ref 33, .ref 46, .int (iI ((cm : Int)))] h = mx_D (14, mm_X6_canHold, 6, [.ref 33, .ref 46, .int (iI ((cm : Int))), .int (iI (((0 : Nat) : Int))), mx_junk], []) h1 := by
    rw [c_X6_canHold, e_X6_canHold_0, b1]
    exact e_X6_canHold_4 ..
  have J0 : RJ z rl cm 0 s00 := ⟨⟨rfl, rfl, rfl⟩, ⟨fun i hi => absurd hi (Nat.not_lt_zero _), fun i j _ hj => absurd hj (Nat.not_lt_zero _)⟩, fun i hi => absurd hi (Nat.not_lt_zero _), fun k' hk' => by omega⟩
  rw [call]
  rcases canHold_6 (gs := gs) z6 hcm Rz 12 0 s00 h1 mx_junk (by omega) (fun k p1 p2 => by rw [b4.1 _ _ (by omega)]; exact R k p1 p2) J0 b2 (MkC_e (fun g => ⟨fun q => q.elim, fun q => by obtain ⟨i, i1, _⟩ := q; exact absurd i1 (Nat.not_lt_zero _)⟩) b3) with ⟨h', r1, r2, r3, r4⟩ | ⟨s, h2, v4, r1, r2, r3, r4, r5⟩
  · exact ⟨0, h', r1, SF_t b4 r2, r3, Or.inl ⟨rfl, r4⟩⟩
  · obtain ⟨⟨j1, j2, j3⟩, J2, J3, J4⟩ := r2
    have F2 := SF_t b4 r5
    have G2 : GtC z gs h2.1 := by
      have f2 : ∀ a k, a < 33 → h2.1 a k = h.1 a k := fun a k p => F2.1 a k (by omega)
      obtain ⟨G1, G2, G3, G4⟩ := G
      refine ⟨by rw [f2 _ _ (by decide)]; exact G1, G2, G3, fun g p1 p2 => ?_⟩
      rw [f2 _ _ (by decide), f2 _ _ (by decide), f2 _ _ (by decide), f2 _ _ (by decide)]
      exact G4 g p1 p2
    have cl0 : clI z s := by
      refine ⟨by rw [j2], fun c hc => by omega, fun p hp => ?_, fun c p p' hc => by omega, by omega, by rw [j2]; dsimp only; omega⟩
      rw [j2] at hp
      exact absurd hp (Nat.not_lt_zero _)
    have LJ0 : LJ z gs (fun u => ∃ p, p < N ∧ od p = u) s s (fun u => ∃ i, i < eT s ∧ eX s i / 2 = u) (fun _ => False) z := by
      refine ⟨cl0, ⟨by omega, by rw [j2]; dsimp only; omega⟩, ⟨rfl, rfl, rfl, rfl⟩, fun u hu => ?_, fun u hu => hu.elim, fun c hc => by omega, fun j hj => Or.inl ⟨j, hj, rfl⟩, fun v hv => ?_⟩
      · obtain ⟨i, i1, i2⟩ := hu
        rw [← i2]; exact (J2.1 i i1).2
      · rcases hv with ⟨i, i1, i2⟩ | hv
        · obtain ⟨_, k', q1, q2, q3⟩ := J3 i i1
          rw [← i2, q3]
          exact Rg k' q1 q2
        · exact hv.elim
    obtain ⟨s1, ch1, M1, D1, h3, l1, l2, l3, l4, l5, l6, l7⟩ := X6_loadMarked_c z6 W r3.1 r3.2.2.2 G2 r4 LJ0
    obtain ⟨L1, ⟨L2, L2'⟩, ⟨L3, L4, L5, L6⟩, L7, L8, L9, L10, L11⟩ := l5
    have F3 : SF h h3 := SF_t F2 ⟨fun a k p => l6 a k (by omega) (by omega), l7⟩
    have T1 : TrC z s1 h3 := by
      have := TrC_k r3.2.1 (h' := h3) (fun a k p1 p2 => l6 a k (by omega) (by omega))
      unfold TrC at this ⊢
      rw [L3, L4, L5]
      exact this
    have Le1 : LeC s1 h3 := by
      have := r3.2.2.1
      unfold LeC at this ⊢
      rw [L3, L5, L6, l6 _ _ (by omega) (by omega), l6 _ _ (by omega) (by omega), l6 _ _ (by omega) (by omega)]
      exact this
    have dz : ∀ i, i ≤ eT s → dcn (eR s) i = 0 := fun i hi => dcn_z _ (fun j hj => by rw [(J3 j (by omega)).1]; decide)
    have I1 : IvI z gs N od (SolR gs rl cm) s1 (eQ s1) := by
      rw [L6, j3]
      refine ⟨L1, ?_, fun c hc x hx => ?_, fun i hi => ?_, fun k hk i hi => by omega, ⟨by omega, fun i p1 p2 => ?_⟩⟩
      · unfold trI
        rw [L3, L4]; exact J2
      · obtain ⟨u, L, q1, q2, q3⟩ := L9 c hc
        obtain ⟨l, t1, t2⟩ := tcl_sound W q1 q2 x
        exact ⟨l, (q3 l).mpr t1, t2⟩
      · rw [L3] at hi
        rw [L4, L5]
        obtain ⟨q0, k', q1, q2, q3⟩ := J3 i hi
        exact Or.inl ⟨q0, fun x hx => by rw [q3]; exact hx k' q1 q2⟩
      · rw [L3] at p2 ⊢
        rw [L5, dz _ (by omega), dz _ (by omega)]
    have D3 : OdC N od h3 := ⟨by rw [F3.1 _ _ (by omega)]; exact D.1, fun p hp => by rw [F3.1 _ _ (by omega)]; exact D.2 p hp⟩
    obtain ⟨b, h4, m1, m2, m3, m4⟩ := canHold_74 (gs := gs) (Sol := SolR gs rl cm) z6 z9 O (s0 := s1) (by omega) (by omega) (cm := iI (cm : Int)) 2313 s1 ch1 h3 0 [] v4 (by omega) (by omega) List.nodup_nil (fun k hk => absurd hk (by simp)) (K0_r s1) (by simp) (by simp) ⟨l2, T1, Le1, l3⟩ l4 D3 I1
    refine ⟨b, h4, ?_, SF_t F3 m2, m3, ?_⟩
    · rw [r1, l1]
      refine Eq.trans (e_X6_canHold_72 ..) ?_
      exact m1
    · rcases m4 with q | ⟨e, s2, k0, I2, T2, A2⟩
      · exact Or.inl q
      · right
        refine ⟨e, ?_⟩
        obtain ⟨i1, i2, i3, i4, i5, i6⟩ := I2
        obtain ⟨x, hx⟩ : ∃ x, x = mkm (fun i => tO s2 (2 * (i + 1))) := ⟨_, rfl⟩
        have x8 : x < 256 := by rw [hx]; exact (mkm_e _).1
        have xv : ∀ i, i < 8 → (xb (x : Int) i = true ↔ tO s2 (2 * (i + 1))) := by
          intro i hi
          have := mkm_t (P := fun i => tO s2 (2 * (i + 1))) hi
          rw [← this, ← hx]
          unfold xb
          rw [decide_eq_true_iff]
          have c : ((x : Int) / 2 ^ i % 2) = ((x / 2 ^ i % 2 : Nat) : Int) := by
            rw [Int.natCast_emod, Int.natCast_ediv, Int.natCast_pow]
            rfl
          rw [c]
          omega
        have xw : ∀ u, 1 ≤ u ∧ u ≤ 8 → (xb (x : Int) (u - 1) = true ↔ tO s2 (2 * u)) := fun u hu => by
          have := xv (u - 1) (by omega)
          rw [show u - 1 + 1 = u by omega] at this
          exact this
        have xf : ∀ u, 1 ≤ u ∧ u ≤ 8 → tO s2 (2 * u + 1) → xb (x : Int) (u - 1) = false := by
          intro u hu t
          cases q : xb (x : Int) (u - 1) with
          | false => rfl
          | true =>
            obtain ⟨i, p1, p2⟩ := (xw u hu).mp q
            obtain ⟨j, p3, p4⟩ := t
            refine (tv_not i2 ⟨p1, p2⟩ ⟨p3, ?_⟩).elim
            rw [p4]; unfold ng; rw [if_pos (by omega)]
        have small : ∀ v, M1 v ∨ D1 v → D1 v ∨ v = 0 ∨ ((1 ≤ v ∧ v ≤ 8) ∧ ∃ p, p < N ∧ od p = v) := by
          intro v hv
          rcases hv with q | q
          · have l9 := L7 v q
            rcases gal_inv (L11 v (Or.inl q)) with g | g | g
            · exact Or.inr (Or.inl g)
            · exact Or.inr (Or.inr g)
            · have := g.1; omega
          · exact Or.inl q
        have TD : TdI z gs (fun u => ∃ p, p < N ∧ od p = u) D1 s2 := by
          intro u hu
          obtain ⟨a, b, c⟩ := L8 u hu
          refine ⟨a, fun L hL => ?_, fun v hv => small v (c v hv)⟩
          obtain ⟨d, d1, d2⟩ := b L hL
          exact ⟨d, by have := k0.1.1; omega, fun l => by rw [k0.1.2 d d1 l, d2 l]⟩
        have inp : ∀ u, 1 ≤ u ∧ u ≤ 8 → (∃ p, p < N ∧ od p = u) → VO gs (x : Int) s2 u := by
          intro u hu ⟨p, p1, p2⟩ l hl t
          obtain ⟨j, j1, j2⟩ := A2 p p1
          rw [p2] at j2
          have c : l = 2 * u ∨ l = 2 * u + 1 := by omega
          rcases c with c | c
          · rw [c, lv_i hu] at t
            rw [c]; exact (xw u hu).mp t
          · rw [c, lv_3, gvl_i hu] at t
            have c2 : eX s2 j = 2 * u ∨ eX s2 j = 2 * u + 1 := by omega
            rcases c2 with c2 | c2
            · rw [(xw u hu).mpr ⟨j, j1, c2⟩] at t
              exact absurd t (by decide)
            · rw [c]; exact ⟨j, j1, c2⟩
        have all := en_all i1 i2 i5 W TD inp
        refine ⟨x, x8, fun i hi => ?_, fun k hk bk => ?_, fun y hy p hp same tx => en_least i2 i3 i4 O (fun p' hp' t => xf _ (O.2.1 p' hp') t) hy hp same ((xw _ (O.2.1 p hp)).mp tx)⟩
        · rw [xv i hi, show 1 + i = i + 1 by omega]
          constructor
          · intro q
            rcases tv_cases s2 (2 * (i + 1)) with t | ⟨j, j1, j2⟩ | t
            · exact t
            · have := (T2.2.1 j j1).1
              rw [j2, ng_2, ng_m, show 2 * (i + 1) / 2 = i + 1 by omega, q, show 2 * (i + 1) % 2 = 0 by omega] at this
              exact absurd this (by decide)
            · have := T2.2.2.1 (i + 1) (by omega) (by omega) (fun j hj => by have := t j hj; omega)
              rw [q] at this
              exact absurd this (by decide)
          · rintro ⟨j, j1, j2⟩
            have := (T2.2.1 j j1).1
            rw [j2, show 2 * (i + 1) / 2 = i + 1 by omega, show 2 * (i + 1) % 2 = 0 by omega] at this
            rw [this]; rfl
        · rcases J4 k hk bk with q | ⟨i, q1, q2⟩
          · rw [q, lv_0]
          · obtain ⟨t1, t2, t3⟩ := k0.2 i (by rw [L3]; exact q1) (by rw [L5]; exact dz _ (by omega))
            rw [L4, q2] at t2
            have gt := L10 i (by rw [L3]; exact q1)
            rw [L4, q2] at gt
            have r1 := (J2.1 i q1).1
            rw [q2] at r1
            have vo : VO gs (x : Int) s2 (rl k / 2) := by
              refine all _ ?_
              rcases small _ gt with g | g | g
              · exact Or.inl g
              · omega
              · exact Or.inr g
            cases q : lv gs (x : Int) (rl k) with
            | true => rfl
            | false =>
              have := vo (ng (rl k)) (ng_2 _) (by rw [lv_ng, q]; rfl)
              obtain ⟨j, j1, j2⟩ := this
              exact (tv_not i2 ⟨t1, t2⟩ ⟨j1, j2⟩).elim
theorem inputs_4 {h : mx_H} {x : Nat} (x8 : x < 256) (H : ∀ i, i < 8 → (h.1 41 (1 + i) = 1 ↔ xb (x : Int) i = true)) : ∀ (d i : Nat), i + d = 8 → mx_D (1, mm_X6_inputs, 4, [.ref 33, .int (iI (((x % 2 ^ i : Nat) : Int))), .int (iI ((i : Int)))], []) h = some (some (.int (iI ((x : Int)))), h) := by
  intro d
  induction d with
  | zero =>
    intro i hi
    rw [show i = 8 by omega, e_X6_inputs_4, if_pos (by decide), Nat.mod_eq_of_lt (by omega)]
  | succ d ih =>
    intro i hi
    have bx : xb (x : Int) i = true ↔ x / 2 ^ i % 2 = 1 := by
      unfold xb
      rw [decide_eq_true_iff]
      have c : ((x : Int) / 2 ^ i % 2) = ((x / 2 ^ i % 2 : Nat) : Int) := by
        rw [Int.natCast_emod, Int.natCast_ediv, Int.natCast_pow]
        rfl
      rw [c]
      omega
    have c : i = 0 ∨ i = 1 ∨ i = 2 ∨ i = 3 ∨ i = 4 ∨ i = 5 ∨ i = 6 ∨ i = 7 := by omega
    have key : x / 2 ^ i % 2 = 1 → iI ((x % 2 ^ i : Nat) : Int) ||| (1 <<< (iI (i : Int) &&& 31)) = iI ((x % 2 ^ (i + 1) : Nat) : Int) := by
      have gen : ∀ y : Fin 256, ∀ j : Fin 8, y.val / 2 ^ j.val % 2 = 1 → iI ((y.val % 2 ^ j.val : Nat) : Int) ||| (1 <<< (iI (j.val : Int) &&& 31)) = iI ((y.val % 2 ^ (j.val + 1) : Nat) : Int) := by decide +kernel
      exact gen ⟨x, x8⟩ ⟨i, by omega⟩
    have key0 : ¬ x / 2 ^ i % 2 = 1 → x % 2 ^ i = x % 2 ^ (i + 1) := by
      intro q
      rcases c with e | e | e | e | e | e | e | e <;> rw [e] at q ⊢ <;> simp only [Nat.reducePow, Nat.reduceAdd] at q ⊢ <;> omega
    have e1 : (1 : Int32) + iI (i : Int) = iI ((1 + i : Nat) : Int) := ii_add 1 (i : Int)
    rw [e_X6_inputs_4, if_neg (fun y => by have := (ii_le (a := 8) (by omega)).mp y; omega), e1, if_pos (in_ (by omega) (by decide)), cln (by omega)]
    by_cases q : xb (x : Int) i = true
    · rw [if_pos ((H i (by omega)).mpr q), key (bx.mp q), e_X6_inputs_28, ii_s1]
      exact ih (i + 1) (by omega)
    · rw [if_neg (fun y => q ((H i (by omega)).mp y)), key0 (fun y => q (bx.mpr y)), e_X6_inputs_28, ii_s1]
      exact ih (i + 1) (by omega)
theorem X6_inputs_c {h : mx_H} {x : Nat} (x8 : x < 256) (H : ∀ i, i < 8 → (h.1 41 (1 + i) = 1 ↔ xb (x : Int) i = true)) : mx_C mm_X6_inputs [.ref 33] h = some (some (.int (iI ((x : Int)))), h) := by
  rw [c_X6_inputs, e_X6_inputs_0]
  have := inputs_4 x8 H 8 0 (by omega)
  rw [show x % 2 ^ 0 = 0 by omega] at this
  exact this
end CH
