/-! the search: its state -/
theorem php : ∀ (N T : Nat) (f : Nat → Nat), (∀ i, i < T → f i < N) → (∀ i j, i < j → j < T → f i ≠ f j) → T ≤ N := by
  intro N
  induction N with
  | zero =>
    intro T f h _
    cases T with
    | zero => exact Nat.le_refl _
    | succ T => exact absurd (h 0 (by omega)) (by omega)
  | succ N ih =>
    intro T f h1 h2
    by_cases q : ∃ i, i < T ∧ f i = N
    · obtain ⟨i0, a1, a2⟩ := q
      have := ih (T - 1) (fun i => if i < i0 then f i else f (i + 1)) (fun i hi => by
        by_cases y : i < i0
        · rw [if_pos y]
          have := h1 i (by omega)
          have := h2 i i0 y a1
          omega
        · rw [if_neg y]
          have := h1 (i + 1) (by omega)
          have := h2 i0 (i + 1) (by omega) (by omega)
          omega) (fun i j hij hj => by
        by_cases y : i < i0
        · rw [if_pos y]
          by_cases w : j < i0
          · rw [if_pos w]; exact h2 i j hij (by omega)
          · rw [if_neg w]; exact h2 i (j + 1) (by omega) (by omega)
        · rw [if_neg y, if_neg (show ¬ j < i0 by omega)]
          exact h2 (i + 1) (j + 1) (by omega) (by omega))
      omega
    · have := ih T f (fun i hi => by
        have := h1 i hi
        have : f i ≠ N := fun e => q ⟨i, hi, e⟩
        omega) h2
      omega
theorem nd_len : ∀ (N : Nat) (R : List Nat), R.Nodup → (∀ k, k ∈ R → k < N) → R.length ≤ N := by
  intro N R h1 h2
  refine php N R.length (fun i => if h : i < R.length then R[i] else 0) (fun i hi => ?_) (fun i j hij hj => ?_)
  · rw [dif_pos hi]
    exact h2 _ (List.getElem_mem hi)
  · rw [dif_pos (show i < R.length by omega), dif_pos hj]
    exact (List.pairwise_iff_getElem.mp h1) i j (by omega) hj hij
/-- clauses, their places, literals; the trail's length, literals, reasons; how many were looked at -/
abbrev Se : Type := Nat × (Nat → Nat) × (Nat → Nat) × Nat × (Nat → Nat) × (Nat → Int) × Nat
def eM (s : Se) : Nat := s.1
def eF (s : Se) : Nat → Nat := s.2.1
def eP (s : Se) : Nat → Nat := s.2.2.1
def eT (s : Se) : Nat := s.2.2.2.1
def eX (s : Se) : Nat → Nat := s.2.2.2.2.1
def eR (s : Se) : Nat → Int := s.2.2.2.2.2.1
def eQ (s : Se) : Nat := s.2.2.2.2.2.2
/-- how many of the first i entries are decisions -/
def dcn (R : Nat → Int) : Nat → Nat
  | 0 => 0
  | i + 1 => dcn R i + (if R i = -2 then 1 else 0)
theorem dcn_mono {R : Nat → Int} {i j : Nat} (h : i ≤ j) : dcn R i ≤ dcn R j := by
  induction j with
  | zero => rw [show i = 0 by omega]; exact Nat.le_refl _
  | succ j ih =>
    by_cases e : i = j + 1
    · rw [e]; exact Nat.le_refl _
    · exact Nat.le_trans (ih (by omega)) (by show dcn R j ≤ dcn R j + _; omega)
theorem dcn_e {R R' : Nat → Int} : ∀ i, (∀ j, j < i → R' j = R j) → dcn R' i = dcn R i := by
  intro i
  induction i with
  | zero => intro _; rfl
  | succ i ih =>
    intro h
    show dcn R' i + _ = dcn R i + _
    rw [ih (fun j hj => h j (by omega)), h i (by omega)]
/-- the cells of clauses and of the trail -/
def ClC (s : Se) (h : mx_H) : Prop := h.1 34 2 = iI (eM s : Int) ∧ (∀ c, c ≤ eM s → h.1 36 c = iI (eF s c : Int)) ∧ h.1 36 (eM s + 1) = iI (eF s (eM s) : Int) ∧ ∀ p, p < eF s (eM s) → h.1 35 p = iI (eP s p : Int)
def TrC (z : Nat) (s : Se) (h : mx_H) : Prop := (∀ i, i < eT s → h.1 44 i = iI (eX s i : Int)) ∧ (∀ i, i < eT s → h.1 41 (eX s i / 2) = iI ((1 - eX s i % 2 : Nat) : Int) ∧ h.1 42 (eX s i / 2) = iI (dcn (eR s) (i + 1) : Int) ∧ h.1 43 (eX s i / 2) = iI (eR s i)) ∧ (∀ g, 1 ≤ g → g < z → (∀ i, i < eT s → eX s i / 2 ≠ g) → h.1 41 g = iI 2) ∧ h.1 41 0 = iI 1
def LeC (s : Se) (h : mx_H) : Prop := h.1 33 9 = iI (eT s : Int) ∧ h.1 33 10 = iI (eQ s : Int) ∧ h.1 33 11 = iI (dcn (eR s) (eT s) : Int)
/-- the trail is of distinct gates below z, none is gate 0 -/
def trI (z : Nat) (s : Se) : Prop := (∀ i, i < eT s → 1 ≤ eX s i / 2 ∧ eX s i / 2 < z) ∧ ∀ i j, i < j → j < eT s → eX s i / 2 ≠ eX s j / 2
def asg (s : Se) (l : Nat) (r : Int) : Se := (eM s, eF s, eP s, eT s + 1, fun i => if i = eT s then l else eX s i, fun i => if i = eT s then r else eR s i, eQ s)
section SK
variable {z : Nat} {s : Se} {h : mx_H}
theorem tr_lt (I : trI z s) : eT s < z ∨ z = 0 := by
  by_cases z0 : z = 0
  · exact Or.inr z0
  · left
    have := php (z - 1) (eT s) (fun i => eX s i / 2 - 1) (fun i hi => by have := I.1 i hi; omega) (fun i j hij hj => by have := I.2 i j hij hj; have := I.1 i (by omega); have := I.1 j hj; omega)
    omega
/-- a literal is true, false, or open -/
theorem tv_cases (s : Se) (l : Nat) : (∃ i, i < eT s ∧ eX s i = l) ∨ (∃ i, i < eT s ∧ eX s i = ng l) ∨ ∀ i, i < eT s → eX s i / 2 ≠ l / 2 := by
  by_cases a : ∃ i, i < eT s ∧ eX s i / 2 = l / 2
  · obtain ⟨i, a1, a2⟩ := a
    rcases lit_eq a2 with e | e
    · exact Or.inl ⟨i, a1, e⟩
    · exact Or.inr (Or.inl ⟨i, a1, e⟩)
  · exact Or.inr (Or.inr (fun i hi e => a ⟨i, hi, e⟩))
theorem tv_not (I : trI z s) {l i j : Nat} (hi : i < eT s ∧ eX s i = l) (hj : j < eT s ∧ eX s j = ng l) : False := by
  have e : eX s i / 2 = eX s j / 2 := by rw [hi.2, hj.2, ng_2]
  by_cases a : i = j
  · rw [a, hj.2] at hi
    have := ng_m l
    have := hi.2
    omega
  · by_cases b : i < j
    · exact I.2 i j b hj.1 e
    · exact I.2 j i (by omega) hi.1 e.symm
theorem x1m {l : Nat} (hl : l < 4096) : (1 : Int32) ^^^ (iI (l : Int) &&& 1) = iI ((1 - l % 2 : Nat) : Int) := by
  rw [show iI (l : Int) &&& 1 = iI ((l : Int) % 2) from ii_and1 _]
  have : l % 2 = 0 ∨ l % 2 = 1 := by omega
  rcases this with e | e
  · rw [e, show (l : Int) % 2 = 0 by omega]; decide
  · rw [e, show (l : Int) % 2 = 1 by omega]; decide
theorem truth_1 {l i : Nat} (C : TrC z s h) (hl : l / 2 < 1065) (hi : i < eT s ∧ eX s i = l) : mx_C mm_X6_truthOf [.ref 33, .int (iI ((l : Int)))] h = some (some (.int 1), h) := by
  have v := (C.2.1 i hi.1).1
  rw [hi.2] at v
  rw [c_X6_truthOf, e_X6_truthOf_0, ii_h (by omega), if_pos (of_eq_true (ii_in (by omega))), cln (by omega), v, if_neg (show ¬ iI ((1 - l % 2 : Nat) : Int) = 2 from fun q => by have := (ii_eq (b := 2) (by omega) (by decide)).mp q; omega), e_X6_truthOf_23, show iI (l : Int) &&& 1 = iI ((l : Int) % 2) from ii_and1 _]
  have : l % 2 = 0 ∨ l % 2 = 1 := by omega
  rcases this with e | e
  · rw [e, show (l : Int) % 2 = 0 by omega]; rfl
  · rw [e, show (l : Int) % 2 = 1 by omega]; rfl
theorem truth_0 {l i : Nat} (C : TrC z s h) (hl : l / 2 < 1065) (hi : i < eT s ∧ eX s i = ng l) : mx_C mm_X6_truthOf [.ref 33, .int (iI ((l : Int)))] h = some (some (.int 0), h) := by
  have v := (C.2.1 i hi.1).1
  rw [hi.2, ng_2, ng_m] at v
  rw [c_X6_truthOf, e_X6_truthOf_0, ii_h (by omega), if_pos (of_eq_true (ii_in (by omega))), cln (by omega), v, if_neg (show ¬ iI ((1 - (1 - l % 2) : Nat) : Int) = 2 from fun q => by have := (ii_eq (b := 2) (by omega) (by decide)).mp q; omega), e_X6_truthOf_23, show iI (l : Int) &&& 1 = iI ((l : Int) % 2) from ii_and1 _]
  have : l % 2 = 0 ∨ l % 2 = 1 := by omega
  rcases this with e | e
  · rw [e, show (l : Int) % 2 = 0 by omega]; rfl
  · rw [e, show (l : Int) % 2 = 1 by omega]; rfl
theorem truth_2 {l : Nat} (C : TrC z s h) (hl : 1 ≤ l / 2 ∧ l / 2 < z ∧ z ≤ 1065) (hi : ∀ i, i < eT s → eX s i / 2 ≠ l / 2) : mx_C mm_X6_truthOf [.ref 33, .int (iI ((l : Int)))] h = some (some (.int 2), h) := by
  have v := C.2.2.1 (l / 2) hl.1 hl.2.1 hi
  rw [c_X6_truthOf, e_X6_truthOf_0, ii_h (by omega), if_pos (of_eq_true (ii_in (by omega))), cln (by omega), v, if_pos (show iI 2 = (2 : Int32) from rfl), e_X6_truthOf_23]
def AsF (h h' : mx_H) : Prop := (∀ a k, ¬ (41 ≤ a ∧ a ≤ 44) → (a ≠ 33 ∨ k ≠ 9) → h'.1 a k = h.1 a k) ∧ h'.2 = h.2
theorem X6_assign_c {l : Nat} {r : Int} {Lv : Nat} (C : TrC z s h) (hT : h.1 33 9 = iI (eT s : Int)) (hL : h.1 33 11 = iI (Lv : Int)) (hl : 1 ≤ l / 2 ∧ l / 2 < 1065) (hn : ∀ i, i < eT s → eX s i / 2 ≠ l / 2) (T6 : eT s < 1065) (hLv : Lv = dcn (eR s) (eT s) + (if r = -2 then 1 else 0)) : ∃ h', mx_C mm_X6_assign [.ref 33, .int (iI ((l : Int))), .int (iI (r))] h = some (none, h') ∧ TrC z (asg s l r) h' ∧ h'.1 33 9 = iI ((eT s + 1 : Nat) : Int) ∧ AsF h h' := by
  have e1 : (iI (l : Int)) >>> (1 &&& 31) = iI ((l / 2 : Nat) : Int) := ii_h (by omega)
  have c2 : (iI ((l / 2 : Nat) : Int)).toNatClampNeg = l / 2 := cln (by omega)
  have cT : (iI (eT s : Int)).toNatClampNeg = eT s := cln (by omega)
  have i1 : mx_in (iI ((l / 2 : Nat) : Int)) 1065 = true := of_eq_true (ii_in (by omega))
  have i2 : mx_in (iI (eT s : Int)) 1065 = true := of_eq_true (ii_in (by omega))
  refine ⟨(mx_u (mx_u (mx_u (mx_u (mx_u h.1 41 (l / 2) (iI ((1 - l % 2 : Nat) : Int))) 42 (l / 2) (iI (Lv : Int))) 43 (l / 2) (iI r)) 44 (eT s) (iI (l : Int))) 33 9 (iI ((eT s + 1 : Nat) : Int)), h.2.1, h.2.2), ?_, ?_, (by dsimp only; exact mu_s _ _ _ _), ⟨fun a k p q => ?_, rfl⟩⟩
  · rw [c_X6_assign, e_X6_assign_0, e1, x1m (by omega), c2]
    have k1 : ∀ (f : Nat → Nat → Int32) (a b k j : Nat) (x : Int32), b ≠ a → mx_u f a k x b j = f b j := fun f a b k j x hne => mu_c _ _ _ _ hne
    rw [k1 _ 43 33 _ _ _ (by decide), k1 _ 42 33 _ _ _ (by decide), k1 _ 41 33 _ _ _ (by decide), k1 _ 41 33 _ _ _ (by decide), hT, hL, cT, k1 _ 44 33 _ _ _ (by decide), k1 _ 43 33 _ _ _ (by decide), k1 _ 42 33 _ _ _ (by decide), k1 _ 41 33 _ _ _ (by decide), hT]
    rw [if_neg (show ¬ (1065 : Int32) ≤ iI (eT s : Int) from fun q => by have := (ii_le (a := 1065) (by omega)).mp q; omega), if_pos i1, if_pos i1, if_pos i1, if_pos i2, e_X6_assign_62, ii_s]
  · have w : ∀ a k, ¬ (a = 41 ∧ k = l / 2) → ¬ (a = 42 ∧ k = l / 2) → ¬ (a = 43 ∧ k = l / 2) → ¬ (a = 44 ∧ k = eT s) → ¬ (a = 33 ∧ k = 9) → mx_u (mx_u (mx_u (mx_u (mx_u h.1 41 (l / 2) (iI ((1 - l % 2 : Nat) : Int))) 42 (l / 2) (iI (Lv : Int))) 43 (l / 2) (iI r)) 44 (eT s) (iI (l : Int))) 33 9 (iI ((eT s + 1 : Nat) : Int)) a k = h.1 a k := by
      intro a k p1 p2 p3 p4 p5
      dsimp only [mx_u]
      rw [if_neg p5, if_neg p4, if_neg p3, if_neg p2, if_neg p1]
    have dd : dcn (eR (asg s l r)) (eT s + 1) = Lv := by
      show dcn (fun i => if i = eT s then r else eR s i) (eT s) + (if (if eT s = eT s then r else eR s (eT s)) = -2 then 1 else 0) = Lv
      rw [if_pos rfl, hLv, dcn_e (R := eR s) (eT s) (fun j hj => if_neg (by omega))]
    have xo : ∀ i, i < eT s → eX (asg s l r) i = eX s i := fun i hi => if_neg (by omega)
    have xn : eX (asg s l r) (eT s) = l := if_pos rfl
    have ro : ∀ i, i < eT s → eR (asg s l r) i = eR s i := fun i hi => if_neg (by omega)
    have rn : eR (asg s l r) (eT s) = r := if_pos rfl
    refine ⟨fun i hi => ?_, fun i hi => ?_, fun g g1 g2 g3 => ?_, ?_⟩
    · have hi : i < eT s + 1 := hi
      dsimp only
      by_cases e : i = eT s
      · rw [e, xn]; dsimp only [mx_u]; rw [if_neg (by omega), if_pos ⟨rfl, rfl⟩]
      · rw [w 44 i (by omega) (by omega) (by omega) (by omega) (by omega), xo i (by omega)]; exact C.1 i (by omega)
    · have hi : i < eT s + 1 := hi
      dsimp only
      by_cases e : i = eT s
      · rw [e, xn, rn, dd]
        dsimp only [mx_u]
        refine ⟨?_, ?_, ?_⟩
        · rw [if_neg (by omega), if_neg (by omega), if_neg (by omega), if_neg (by omega), if_pos ⟨rfl, rfl⟩]
        · rw [if_neg (by omega), if_neg (by omega), if_neg (by omega), if_pos ⟨rfl, rfl⟩]
        · rw [if_neg (by omega), if_neg (by omega), if_pos ⟨rfl, rfl⟩]
      · have ne := hn i (by omega)
        rw [xo i (by omega), ro i (by omega), w 41 _ (by omega) (by omega) (by omega) (by omega) (by omega), w 42 _ (by omega) (by omega) (by omega) (by omega) (by omega), w 43 _ (by omega) (by omega) (by omega) (by omega) (by omega), dcn_e (R := eR s) (i + 1) (fun j hj => ro j (by omega))]
        exact C.2.1 i (by omega)
    · have gl : l / 2 ≠ g := by have := g3 (eT s) (show eT s < eT s + 1 by omega); rw [xn] at this; exact this
      dsimp only
      rw [w 41 g (by omega) (by omega) (by omega) (by omega) (by omega)]
      exact C.2.2.1 g g1 g2 (fun i hi => by have := g3 i (show i < eT s + 1 by omega); rw [xo i hi] at this; exact this)
    · dsimp only
      rw [w 41 0 (by omega) (by omega) (by omega) (by omega) (by omega)]
      exact C.2.2.2
  · dsimp only [mx_u]
    rw [if_neg (by omega), if_neg (by omega), if_neg (by omega), if_neg (by omega), if_neg (by omega)]
end SK
