/-! the search: decide, goBack -/
def odI (N : Nat) (od : Nat → Nat) : Prop := N ≤ 8 ∧ (∀ p, p < N → 1 ≤ od p ∧ od p ≤ 8) ∧ ∀ a b, a < b → b < N → od a ≠ od b
def OdC (N : Nat) (od : Nat → Nat) (h : mx_H) : Prop := h.1 33 3 = iI (N : Int) ∧ ∀ p, p < N → h.1 39 p = iI (od p : Int)
def SF (h h' : mx_H) : Prop := (∀ a k, (a < 33 ∨ 45 < a ∨ a = 39 ∨ (a = 33 ∧ k = 3)) → h'.1 a k = h.1 a k) ∧ h'.2 = h.2
theorem SF_r (h : mx_H) : SF h h := ⟨fun _ _ _ => rfl, rfl⟩
theorem SF_t {a b c : mx_H} (x : SF a b) (y : SF b c) : SF a c := ⟨fun i k p => by rw [y.1 i k p, x.1 i k p], by rw [y.2, x.2]⟩
theorem SF_p {a b : mx_H} (x : PF a b) : SF a b := ⟨fun i k p => x.1 i k (by omega) (by omega) (by omega) (by omega) (by omega), x.2⟩
section DE
variable {z : Nat} {gs : Nat → Gt} {N : Nat} {od : Nat → Nat} {Sol : Int → Prop} {s : Se}
theorem od_inj (O : odI N od) {a b : Nat} (ha : a < N) (hb : b < N) (e : od a = od b) : a = b := by
  by_cases y : a < b
  · exact absurd e (O.2.2 a b y hb)
  · by_cases w : b < a
    · exact absurd e.symm (O.2.2 b a w ha)
    · omega
theorem rs_dec (S : rsI gs N od Sol s) {i : Nat} (hi : i < eT s) (h : eR s i = -2) : ∃ p, p < N ∧ eX s i = 2 * od p + 1 ∧ ∀ p', p' < p → ∃ j, j < i ∧ eX s j / 2 = od p' := by
  rcases S i hi with q | q | ⟨c, c1, c2, _⟩
  · rw [h] at q; exact absurd q.1 (by decide)
  · exact q.2
  · rw [h] at c2; omega
theorem dec_pos (T : trI z s) (S : rsI gs N od Sol s) {i i' p p' : Nat} (hi : i < eT s) (h : eR s i = -2) (hp : p < N) (hx : eX s i = 2 * od p + 1) (O : odI N od) (ii : i' < i) (h' : eR s i' = -2) (hp' : p' < N) (hx' : eX s i' = 2 * od p' + 1) : p' < p := by
  obtain ⟨a, a1, a2, a3⟩ := rs_dec S (show i' < eT s by omega) h'
  have ea : od a = od p' := by omega
  have ea := od_inj O a1 hp' ea
  rw [ea] at a3
  have ne : p ≠ p' := fun e => by
    apply T.2 i' i ii hi
    rw [hx, hx', e]
  by_cases y : p < p'
  · obtain ⟨j, j1, j2⟩ := a3 p y
    exfalso
    apply T.2 j i (by omega) hi
    rw [j2, hx]; omega
  · omega
theorem dcn_le (T : trI z s) (S : rsI gs N od Sol s) (O : odI N od) : ∀ i, i ≤ eT s → ∀ B, (∀ a p, a < i → eR s a = -2 → p < N → eX s a = 2 * od p + 1 → p < B) → dcn (eR s) i ≤ B := by
  intro i
  induction i with
  | zero => intro _ B _; exact Nat.zero_le _
  | succ i ih =>
    intro hi B hB
    show dcn (eR s) i + (if eR s i = -2 then 1 else 0) ≤ B
    by_cases y : eR s i = -2
    · rw [if_pos y]
      obtain ⟨p, p1, p2, p3⟩ := rs_dec S (show i < eT s by omega) y
      have := hB i p (by omega) y p1 p2
      have := ih (by omega) p (fun a p' ha hr hp' hx => dec_pos T S (by omega) y p1 p2 O ha hr hp' hx)
      omega
    · rw [if_neg y]
      exact ih (by omega) B (fun a p ha => hB a p (by omega))
theorem lev_N (T : trI z s) (S : rsI gs N od Sol s) (O : odI N od) : dcn (eR s) (eT s) ≤ N := dcn_le T S O (eT s) (Nat.le_refl _) N (fun a p _ _ hp _ => hp)
theorem decide_2 {ch : Nat → List Nat} {h : mx_H} (z6 : z ≤ 1065) (z9 : 9 ≤ z) (O : odI N od) (D : OdC N od h) (C : SeC z s ch h) (I : IvI z gs N od Sol s (eQ s)) (hq : eQ s = eT s) : ∀ (d i : Nat), i + d = N → (∀ p, p < i → ∃ j, j < eT s ∧ eX s j / 2 = od p) → (mx_D (2, mm_X6_decide, 2, [.ref 33, .int (iI ((i : Int)))], []) h = some (some (.int 0), h) ∧ ∀ p, p < N → ∃ j, j < eT s ∧ eX s j / 2 = od p) ∨ ∃ p h', p < N ∧ mx_D (2, mm_X6_decide, 2, [.ref 33, .int (iI ((i : Int)))], []) h = some (some (.int 1), h') ∧ SeC z (asg s (2 * od p + 1) (-2)) ch h' ∧ IvI z gs N od Sol (asg s (2 * od p + 1) (-2)) (eT s) ∧ SF h h' ∧ ∀ k, h'.1 40 k = h.1 40 k := by
  have N8 := O.1
  obtain ⟨C1, C2, C3, C4⟩ := C
  obtain ⟨I1, I2, I3, I4, I5, I6⟩ := I
  intro d
  induction d with
  | zero =>
    intro i hi hp
    left
    refine ⟨?_, fun p h => hp p (by omega)⟩
    rw [e_X6_decide_2, D.1, if_pos ((ii_le (by omega)).mpr (by omega))]
  | succ d ih =>
    intro i hi hp
    have ob := O.2.1 i (by omega)
    have e0 : mx_D (2, mm_X6_decide, 2, [.ref 33, .int (iI ((i : Int)))], []) h = if h.1 41 (od i) = 2 then (mx_C mm_X6_assign [.ref 33, .int (2 * (mx_u h.1 33 11 (h.1 33 11 + 1) 39 i) + 1), .int (-2)] (mx_u h.1 33 11 (h.1 33 11 + 1), h.2.1, h.2.2)).bind (fun o => mx_D (2, mm_X6_decide, 51, [.ref 33, .int (iI ((i : Int)))], o.1.toList ++ []) o.2) else mx_D (2, mm_X6_decide, 2, [.ref 33, .int (iI ((i : Int) + 1))], []) h := by
      rw [e_X6_decide_2, D.1, if_neg (fun e => by have := (ii_le (by omega)).mp e; omega), if_pos (in_ (by omega) (by decide)), cln (by omega), D.2 i (by omega), if_pos (in_ (by omega) (by decide)), cln (by omega), if_pos (in_ (by omega) (by decide)), show iI (i : Int) + 1 = iI ((i : Int) + 1) from ii_add _ 1]
    rw [e0]
    by_cases y : ∃ j, j < eT s ∧ eX s j / 2 = od i
    · obtain ⟨j, j1, j2⟩ := y
      have v := (C2.2.1 j j1).1
      rw [j2] at v
      rw [v, if_neg (show ¬ iI ((1 - eX s j % 2 : Nat) : Int) = 2 from fun e => by have := (ii_eq (b := 2) (by omega) (by decide)).mp e; omega)]
      exact ih (i + 1) (by omega) (fun p h => by
        by_cases e : p = i
        · rw [e]; exact ⟨j, j1, j2⟩
        · exact hp p (by omega))
    · have hn : ∀ j, j < eT s → eX s j / 2 ≠ od i := fun j hj e => y ⟨j, hj, e⟩
      have v := C2.2.2.1 (od i) ob.1 (by omega) hn
      right
      obtain ⟨h1, hh⟩ : ∃ h1 : mx_H, h1 = (mx_u h.1 33 11 (h.1 33 11 + 1), h.2.1, h.2.2) := ⟨_, rfl⟩
      have o1 : ∀ a k, a ≠ 33 ∨ k ≠ 11 → h1.1 a k = h.1 a k := fun a k ha => by rw [hh]; dsimp only [mx_u]; rw [if_neg (by omega)]
      have hL : h1.1 33 11 = iI ((dcn (eR s) (eT s) + 1 : Nat) : Int) := by rw [hh]; dsimp only; rw [mu_s, C3.2.2, ii_s]
      have hl : (2 * od i + 1) / 2 = od i := by omega
      obtain ⟨h2, a1, a2, a3, a4⟩ := X6_assign_c (l := 2 * od i + 1) (r := -2) (TrC_k C2 (h' := h1) (fun a k p1 p2 => o1 a k (by omega))) (by rw [o1 _ _ (by decide)]; exact C3.1) hL (by omega) (fun j hj => by rw [hl]; exact hn j hj) (tr_l6 I2 z6) (by rw [if_pos rfl])
      refine ⟨i, h2, by omega, ?_, ⟨ClC_k (s := s) C1 (fun a k p1 p2 => by rw [a4.1 a k (by omega) (by omega), o1 a k (by omega)]), a2, ⟨a3, ?_, ?_⟩, ChR_k C4 (fun a k p => by rw [a4.1 a k (by omega) (by omega), o1 a k (by omega)]) rfl (fun _ => rfl)⟩, ⟨I1, trI_asg I2 (by omega) (fun j hj => by rw [hl]; exact hn j hj), I3, rsI_asg I4 (Or.inr (Or.inl ⟨rfl, i, by omega, rfl, fun p' h => hp p' h⟩)), waI_asg (Nat.le_refl _) (by rw [← hq]; exact I5), ⟨by show eT s ≤ eT s + 1; omega, fun j p1 p2 => ?_⟩⟩, ⟨fun a k p => by rw [a4.1 a k (by omega) (by omega), o1 a k (by omega)], by rw [a4.2, hh]⟩, fun k => by rw [a4.1 40 k (by decide) (by omega), o1 40 k (by omega)]⟩
      · rw [v, if_pos (show iI 2 = (2 : Int32) from rfl), mu_c _ _ _ _ (by decide), D.2 i (by omega), ← hh, show (2 : Int32) * iI (od i : Int) + 1 = iI ((2 * od i + 1 : Nat) : Int) from by rw [show (2 : Int32) = iI 2 from rfl, ii_mul, show (1 : Int32) = iI 1 from rfl, ii_add]; rfl, show (-2 : Int32) = iI (-2) by decide, a1]
        exact e_X6_decide_51 ..
      · show h2.1 33 10 = iI (eQ s : Int)
        rw [a4.1 _ _ (by decide) (by decide), o1 _ _ (by decide)]; exact C3.2.1
      · show h2.1 33 11 = iI (dcn (eR (asg s (2 * od i + 1) (-2))) (eT s + 1) : Int)
        rw [asg_dn, if_pos rfl, a4.1 _ _ (by decide) (by decide)]; exact hL
      · have p2 : j < eT s + 1 := p2
        show dcn _ (j + 1) = dcn _ (eT s + 1)
        rw [show j = eT s by omega]
theorem X6_decide_c {ch : Nat → List Nat} {h : mx_H} (z6 : z ≤ 1065) (z9 : 9 ≤ z) (O : odI N od) (D : OdC N od h) (C : SeC z s ch h) (I : IvI z gs N od Sol s (eQ s)) (hq : eQ s = eT s) : (mx_C mm_X6_decide [.ref 33] h = some (some (.int 0), h) ∧ ∀ p, p < N → ∃ j, j < eT s ∧ eX s j / 2 = od p) ∨ ∃ p h', p < N ∧ mx_C mm_X6_decide [.ref 33] h = some (some (.int 1), h') ∧ SeC z (asg s (2 * od p + 1) (-2)) ch h' ∧ IvI z gs N od Sol (asg s (2 * od p + 1) (-2)) (eT s) ∧ SF h h' ∧ ∀ k, h'.1 40 k = h.1 40 k := by
  rw [c_X6_decide, e_X6_decide_0]
  exact decide_2 z6 z9 O D C I hq N 0 (by omega) (fun p hp => by omega)
/-- the trail cut -/
def stT (s : Se) (t : Nat) : Se := (eM s, eF s, eP s, t, eX s, eR s, eQ s)
theorem goBack_0 (z6 : z ≤ 1065) {to' : Nat} (t8 : to' ≤ 8) {q : Nat} : ∀ (t : Nat) (s : Se) (h : mx_H), eT s = t → trI z s → TrC z s h → h.1 33 9 = iI (eT s : Int) → h.1 33 10 = iI (q : Int) → q < 65536 → dcn (eR s) (eT s) ≤ 8 → ∃ t' h', mx_D (12, mm_X6_goBack, 0, [.ref 33, .int (iI ((to' : Int)))], []) h = some (none, h') ∧ t' ≤ t ∧ (∀ i, i < t' → dcn (eR s) (i + 1) ≤ to') ∧ (∀ i, t' ≤ i → i < t → to' < dcn (eR s) (i + 1)) ∧ TrC z (stT s t') h' ∧ h'.1 33 9 = iI (t' : Int) ∧ h'.1 33 10 = iI ((if t' < q then t' else q : Nat) : Int) ∧ h'.1 33 11 = iI (to' : Int) ∧ (∀ a k, a ≠ 41 → (a ≠ 33 ∨ (k ≠ 9 ∧ k ≠ 10 ∧ k ≠ 11)) → h'.1 a k = h.1 a k) ∧ h'.2 = h.2 := by
  have done : ∀ (s : Se) (h : mx_H), trI z s → TrC z s h → h.1 33 9 = iI (eT s : Int) → h.1 33 10 = iI (q : Int) → q < 65536 → (∀ i, i < eT s → dcn (eR s) (i + 1) ≤ to') → ∀ X, X = mx_D (12, mm_X6_goBack, 59, [.ref 33, .int (iI ((to' : Int)))], []) h → ∃ t' h', X = some (none, h') ∧ t' ≤ eT s ∧ (∀ i, i < t' → dcn (eR s) (i + 1) ≤ to') ∧ (∀ i, t' ≤ i → i < eT s → to' < dcn (eR s) (i + 1)) ∧ TrC z (stT s t') h' ∧ h'.1 33 9 = iI (t' : Int) ∧ h'.1 33 10 = iI ((if t' < q then t' else q : Nat) : Int) ∧ h'.1 33 11 = iI (to' : Int) ∧ (∀ a k, a ≠ 41 → (a ≠ 33 ∨ (k ≠ 9 ∧ k ≠ 10 ∧ k ≠ 11)) → h'.1 a k = h.1 a k) ∧ h'.2 = h.2 := by
    intro s h T C h9 h10 q6 al X hX
    have Tl := tr_l6 T z6
    have e1 : (if h.1 33 9 < h.1 33 10 then h.1 33 9 else h.1 33 10) = iI ((if eT s < q then eT s else q : Nat) : Int) := by
      rw [h9, h10]
      by_cases y : eT s < q
      · rw [if_pos y, if_pos ((ii_lt (by omega)).mpr (by omega))]
      · rw [if_neg y, if_neg (fun e => by have := (ii_lt (by omega)).mp e; omega)]
    refine ⟨eT s, (mx_u (mx_u h.1 33 10 (iI ((if eT s < q then eT s else q : Nat) : Int))) 33 11 (iI (to' : Int)), h.2.1, h.2.2), ?_, Nat.le_refl _, al, fun i p1 p2 => by omega, TrC_k (s := s) C (fun a k p1 p2 => ?_), ?_, ?_, (by dsimp only; exact mu_s _ _ _ _), fun a k p1 p2 => ?_, rfl⟩
    · rw [hX, e_X6_goBack_59, e1]
    · dsimp only; rw [mu_c _ _ _ _ (by omega), mu_c _ _ _ _ (by omega)]
    · dsimp only; rw [mu_k _ _ (by decide), mu_k _ _ (by decide)]; exact h9
    · dsimp only; rw [mu_k _ _ (by decide), mu_s]
    · dsimp only [mx_u]; rw [if_neg (by omega), if_neg (by omega)]
  intro t
  induction t with
  | zero =>
    intro s h ht T C h9 h10 q6 d8
    have := done s h T C h9 h10 q6 (fun i hi => by omega) (mx_D (12, mm_X6_goBack, 0, [.ref 33, .int (iI ((to' : Int)))], []) h) (by rw [e_X6_goBack_0, h9, ht, if_pos (by decide)])
    rw [ht] at this
    exact this
  | succ t ih =>
    intro s h ht T C h9 h10 q6 d8
    have Tl := tr_l6 T z6
    have lb := T.1 t (by omega)
    have em : iI ((t + 1 : Nat) : Int) - 1 = iI (t : Int) := by rw [show (1 : Int32) = iI 1 from rfl, ii_sub]; congr 1; omega
    have lv' := (C.2.1 t (by omega)).2.1
    have dl : dcn (eR s) (t + 1) ≤ 8 := Nat.le_trans (dcn_mono (by omega)) d8
    have e0 : mx_D (12, mm_X6_goBack, 0, [.ref 33, .int (iI ((to' : Int)))], []) h = if iI (dcn (eR s) (t + 1) : Int) ≤ iI (to' : Int) then mx_D (12, mm_X6_goBack, 59, [.ref 33, .int (iI ((to' : Int)))], []) h else mx_D (12, mm_X6_goBack, 0, [.ref 33, .int (iI ((to' : Int)))], []) (mx_u (mx_u h.1 33 9 (iI (t : Int))) 41 (eX s t / 2) 2, h.2.1, h.2.2) := by
      rw [e_X6_goBack_0, mu_s, h9, ht, em, if_neg (show ¬ iI ((t + 1 : Nat) : Int) ≤ 0 from fun e => by have := (ii_le (b := 0) (by omega)).mp e; omega), if_pos (in_ (by omega) (by decide)), cln (by omega), mu_c _ _ _ _ (by decide), C.1 t (by omega), ii_h (by omega), if_pos (in_ (by omega) (by decide)), cln (by omega), lv', if_pos (in_ (by omega) (by decide)), if_pos (in_ (by omega) (by decide))]
    by_cases y : dcn (eR s) (t + 1) ≤ to'
    · have := done s h T C h9 h10 q6 (fun i hi => Nat.le_trans (dcn_mono (show i + 1 ≤ t + 1 by omega)) y) (mx_D (12, mm_X6_goBack, 0, [.ref 33, .int (iI ((to' : Int)))], []) h) (by rw [e0, if_pos ((ii_le (by omega)).mpr (by omega))])
      rw [ht] at this
      exact this
    · have TC : TrC z (stT s t) (mx_u (mx_u h.1 33 9 (iI (t : Int))) 41 (eX s t / 2) 2, h.2.1, h.2.2) := by
        refine ⟨fun i hi => ?_, fun i hi => ?_, fun g g1 g2 g3 => ?_, ?_⟩
        · have hi : i < t := hi
          dsimp only; rw [mu_c _ _ _ _ (by decide), mu_c _ _ _ _ (by decide)]; exact C.1 i (by omega)
        · have hi : i < t := hi
          have ne := T.2 i t hi (by omega)
          dsimp only
          rw [mu_k _ _ (show eX (stT s t) i / 2 ≠ eX s t / 2 from ne), mu_c _ _ _ _ (by decide), mu_c _ _ _ _ (by decide), mu_c _ _ _ _ (by decide), mu_c _ _ _ _ (by decide), mu_c _ _ _ _ (by decide)]
          exact C.2.1 i (by omega)
        · dsimp only
          by_cases e : g = eX s t / 2
          · rw [e, mu_s]; rfl
          · rw [mu_k _ _ e, mu_c _ _ _ _ (by decide)]
            refine C.2.2.1 g g1 g2 (fun i hi => ?_)
            by_cases e2 : i = t
            · rw [e2]; exact fun z => e z.symm
            · exact g3 i (show i < t by omega)
        · dsimp only
          rw [mu_k _ _ (by omega), mu_c _ _ _ _ (by decide)]
          exact C.2.2.2
      have H9 : mx_u (mx_u h.1 33 9 (iI (t : Int))) 41 (eX s t / 2) 2 33 9 = iI (t : Int) := by rw [mu_c _ _ _ _ (by decide), mu_s]
      have H10 : mx_u (mx_u h.1 33 9 (iI (t : Int))) 41 (eX s t / 2) 2 33 10 = iI (q : Int) := by rw [mu_c _ _ _ _ (by decide), mu_k _ _ (by decide)]; exact h10
      obtain ⟨t', h', r1, r2, r3, r4, r5, r6, r7, r8, r9, r10⟩ := ih (stT s t) (mx_u (mx_u h.1 33 9 (iI (t : Int))) 41 (eX s t / 2) 2, h.2.1, h.2.2) rfl ⟨fun i hi => T.1 i (by have : i < t := hi; omega), fun i j p1 p2 => T.2 i j p1 (by have : j < t := p2; omega)⟩ TC H9 H10 q6 (Nat.le_trans (dcn_mono (show t ≤ eT s by omega)) d8)
      refine ⟨t', h', ?_, by omega, r3, fun i p1 p2 => ?_, r5, r6, r7, r8, fun a k p1 p2 => ?_, by rw [r10]⟩
      · rw [e0, if_neg (fun e => y (by have := (ii_le (by omega)).mp e; omega))]
        exact r1
      · by_cases e : i = t
        · rw [e]; omega
        · exact r4 i p1 (by omega)
      · rw [r9 a k p1 p2]
        dsimp only [mx_u]
        rw [if_neg (by omega), if_neg (by omega)]
end DE
