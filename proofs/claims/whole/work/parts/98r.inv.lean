/-! the search: what holds all the time -/
def inC (s : Se) (c l : Nat) : Prop := ∃ p, inR s c p ∧ eP s p = l
def sdI (gs : Nat → Gt) (Sol : Int → Prop) (s : Se) : Prop := ∀ c, c < eM s → ∀ x, Sol x → ∃ l, inC s c l ∧ lv gs x l = true
def rsI (gs : Nat → Gt) (N : Nat) (od : Nat → Nat) (Sol : Int → Prop) (s : Se) : Prop := ∀ i, i < eT s → (eR s i = -1 ∧ ∀ x, Sol x → lv gs x (eX s i) = true) ∨ (eR s i = -2 ∧ ∃ p, p < N ∧ eX s i = 2 * od p + 1 ∧ ∀ p', p' < p → ∃ j, j < i ∧ eX s j / 2 = od p') ∨ ∃ c : Nat, c < eM s ∧ eR s i = (c : Int) ∧ inC s c (eX s i) ∧ ∀ l, inC s c l → l ≠ eX s i → ∃ j, j < i ∧ eX s j = ng l
def waI (s : Se) (q : Nat) : Prop := ∀ k, k < 2 * eM s → ∀ i, i < q → eX s i = ng (wl s k) → ∃ j, j < eT s ∧ eX s j = wl s (ng k) ∧ dcn (eR s) (j + 1) ≤ dcn (eR s) (i + 1)
def uI (s : Se) (q : Nat) : Prop := q ≤ eT s ∧ ∀ i, q ≤ i → i < eT s → dcn (eR s) (i + 1) = dcn (eR s) (eT s)
/-- the same clauses, a longer trail -/
def SX (s s' : Se) : Prop := eM s' = eM s ∧ eF s' = eF s ∧ eT s ≤ eT s' ∧ (∀ i, i < eT s → eX s' i = eX s i ∧ eR s' i = eR s i) ∧ eQ s' = eQ s ∧ ∀ c, c < eM s → ∀ l, inC s' c l ↔ inC s c l
theorem SX_r (s : Se) : SX s s := ⟨rfl, rfl, Nat.le_refl _, fun _ _ => ⟨rfl, rfl⟩, rfl, fun _ _ _ => Iff.rfl⟩
theorem SX_t {a b c : Se} (x : SX a b) (y : SX b c) : SX a c := by
  obtain ⟨x1, x2, x3, x4, x5, x6⟩ := x
  obtain ⟨y1, y2, y3, y4, y5, y6⟩ := y
  exact ⟨by rw [y1, x1], by rw [y2, x2], by omega, fun i hi => by rw [(y4 i (by omega)).1, (y4 i (by omega)).2]; exact x4 i hi, by rw [y5, x5], fun c hc l => by rw [y6 c (by rw [x1]; exact hc) l, x6 c hc l]⟩
section IV
variable {z : Nat} {gs : Nat → Gt} {N : Nat} {od : Nat → Nat} {Sol : Int → Prop} {s : Se}
theorem inC_exc (I : clI z s) {c0 a b : Nat} (hc0 : c0 < eM s) (ha : inR s c0 a) (hb : inR s c0 b) {c l : Nat} (hc : c < eM s) : inC (exc s a b) c l ↔ inC s c l := by
  have P : ∀ p, eP (exc s a b) p = (if p = a then eP s b else if p = b then eP s a else eP s p) := fun p => rfl
  have R : ∀ p, inR (exc s a b) c p ↔ inR s c p := fun p => Iff.rfl
  by_cases y : c = c0
  · rw [y]
    constructor
    · rintro ⟨p, p1, p2⟩
      rw [P] at p2
      split at p2
      · exact ⟨b, hb, p2⟩
      · split at p2
        · exact ⟨a, ha, p2⟩
        · exact ⟨p, p1, p2⟩
    · rintro ⟨p, p1, p2⟩
      by_cases x1 : p = a
      · by_cases x2 : b = a
        · exact ⟨a, ha, by rw [P, if_pos rfl, x2, ← x1]; exact p2⟩
        · exact ⟨b, hb, by rw [P, if_neg x2, if_pos rfl, ← x1]; exact p2⟩
      · by_cases x2 : p = b
        · exact ⟨a, ha, by rw [P, if_pos rfl, ← x2]; exact p2⟩
        · exact ⟨p, p1, by rw [P, if_neg x1, if_neg x2]; exact p2⟩
  · have oth : ∀ p, inR s c p → p ≠ a ∧ p ≠ b := by
      intro p hp
      have : eF s (c + 1) ≤ eF s c0 ∨ eF s (c0 + 1) ≤ eF s c := by
        by_cases w : c < c0
        · exact Or.inl (fr_mono I (by omega) (by omega))
        · exact Or.inr (fr_mono I (by omega) (by omega))
      unfold inR at ha hb hp
      omega
    constructor
    · rintro ⟨p, p1, p2⟩
      have o := oth p p1
      rw [P, if_neg o.1, if_neg o.2] at p2
      exact ⟨p, p1, p2⟩
    · rintro ⟨p, p1, p2⟩
      have o := oth p p1
      exact ⟨p, p1, by rw [P, if_neg o.1, if_neg o.2]; exact p2⟩
theorem sdI_x {s' : Se} (S : sdI gs Sol s) (X : SX s s') : sdI gs Sol s' := by
  intro c hc x hx
  rw [X.1] at hc
  obtain ⟨l, l1, l2⟩ := S c hc x hx
  exact ⟨l, (X.2.2.2.2.2 c hc l).mpr l1, l2⟩
theorem rsI_x {s' : Se} (S : rsI gs N od Sol s) (X : SX s s') (hT : eT s' = eT s) : rsI gs N od Sol s' := by
  intro i hi
  rw [hT] at hi
  have x4 := X.2.2.2.1
  rw [(x4 i hi).1, (x4 i hi).2]
  rcases S i hi with q | ⟨q, p, p1, p2, p3⟩ | ⟨c, c1, c2, c3, c4⟩
  · exact Or.inl q
  · refine Or.inr (Or.inl ⟨q, p, p1, p2, fun p' hp' => ?_⟩)
    obtain ⟨j, j1, j2⟩ := p3 p' hp'
    exact ⟨j, j1, by rw [(x4 j (by omega)).1]; exact j2⟩
  · refine Or.inr (Or.inr ⟨c, by rw [X.1]; exact c1, c2, (X.2.2.2.2.2 c c1 _).mpr c3, fun l hl ne => ?_⟩)
    obtain ⟨j, j1, j2⟩ := c4 l ((X.2.2.2.2.2 c c1 l).mp hl) ne
    exact ⟨j, j1, by rw [(x4 j (by omega)).1]; exact j2⟩
theorem SX_exc (I : clI z s) {c0 a b : Nat} (hc0 : c0 < eM s) (ha : inR s c0 a) (hb : inR s c0 b) : SX s (exc s a b) := ⟨rfl, rfl, Nat.le_refl _, fun _ _ => ⟨rfl, rfl⟩, rfl, fun c hc l => inC_exc I hc0 ha hb hc⟩
theorem SX_asg {l : Nat} {r : Int} : SX s (asg s l r) := ⟨rfl, rfl, by show eT s ≤ eT s + 1; omega, fun i hi => ⟨if_neg (by omega), if_neg (by omega)⟩, rfl, fun c hc l => Iff.rfl⟩
theorem asg_X {l : Nat} {r : Int} {i : Nat} (hi : i < eT s) : eX (asg s l r) i = eX s i := if_neg (by omega)
theorem asg_R {l : Nat} {r : Int} {i : Nat} (hi : i < eT s) : eR (asg s l r) i = eR s i := if_neg (by omega)
theorem asg_Xn {l : Nat} {r : Int} : eX (asg s l r) (eT s) = l := if_pos rfl
theorem asg_Rn {l : Nat} {r : Int} : eR (asg s l r) (eT s) = r := if_pos rfl
theorem asg_d {l : Nat} {r : Int} {i : Nat} (hi : i ≤ eT s) : dcn (eR (asg s l r)) i = dcn (eR s) i := dcn_e i (fun j hj => asg_R (by omega))
theorem asg_dn {l : Nat} {r : Int} : dcn (eR (asg s l r)) (eT s + 1) = dcn (eR s) (eT s) + (if r = -2 then 1 else 0) := by
  show dcn (eR (asg s l r)) (eT s) + (if eR (asg s l r) (eT s) = -2 then 1 else 0) = _
  rw [asg_d (Nat.le_refl _), asg_Rn]
theorem trI_asg (T : trI z s) {l : Nat} {r : Int} (hl : 1 ≤ l / 2 ∧ l / 2 < z) (hn : ∀ i, i < eT s → eX s i / 2 ≠ l / 2) : trI z (asg s l r) := by
  refine ⟨fun i hi => ?_, fun i j hij hj => ?_⟩
  · have hi : i < eT s + 1 := hi
    by_cases e : i = eT s
    · rw [e, asg_Xn]; exact hl
    · rw [asg_X (by omega)]; exact T.1 i (by omega)
  · have hj : j < eT s + 1 := hj
    rw [asg_X (show i < eT s by omega)]
    by_cases e : j = eT s
    · rw [e, asg_Xn]; exact hn i (by omega)
    · rw [asg_X (by omega)]; exact T.2 i j hij (by omega)
theorem rsI_asg (S : rsI gs N od Sol s) {l : Nat} {r : Int} (hr : (r = -1 ∧ ∀ x, Sol x → lv gs x l = true) ∨ (r = -2 ∧ ∃ p, p < N ∧ l = 2 * od p + 1 ∧ ∀ p', p' < p → ∃ j, j < eT s ∧ eX s j / 2 = od p') ∨ ∃ c : Nat, c < eM s ∧ r = (c : Int) ∧ inC s c l ∧ ∀ l', inC s c l' → l' ≠ l → ∃ j, j < eT s ∧ eX s j = ng l') : rsI gs N od Sol (asg s l r) := by
  intro i hi
  have hi : i < eT s + 1 := hi
  by_cases e : i = eT s
  · rw [e, asg_Xn, asg_Rn]
    rcases hr with q | ⟨q, p, p1, p2, p3⟩ | ⟨c, c1, c2, c3, c4⟩
    · exact Or.inl q
    · refine Or.inr (Or.inl ⟨q, p, p1, p2, fun p' hp' => ?_⟩)
      obtain ⟨j, j1, j2⟩ := p3 p' hp'
      exact ⟨j, j1, by rw [asg_X j1]; exact j2⟩
    · refine Or.inr (Or.inr ⟨c, c1, c2, c3, fun l' hl ne => ?_⟩)
      obtain ⟨j, j1, j2⟩ := c4 l' hl ne
      exact ⟨j, j1, by rw [asg_X j1]; exact j2⟩
  · have hi' : i < eT s := by omega
    rw [asg_X hi', asg_R hi']
    rcases S i hi' with q | ⟨q, p, p1, p2, p3⟩ | ⟨c, c1, c2, c3, c4⟩
    · exact Or.inl q
    · refine Or.inr (Or.inl ⟨q, p, p1, p2, fun p' hp' => ?_⟩)
      obtain ⟨j, j1, j2⟩ := p3 p' hp'
      exact ⟨j, j1, by rw [asg_X (by omega)]; exact j2⟩
    · refine Or.inr (Or.inr ⟨c, c1, c2, c3, fun l' hl ne => ?_⟩)
      obtain ⟨j, j1, j2⟩ := c4 l' hl ne
      exact ⟨j, j1, by rw [asg_X (by omega)]; exact j2⟩
theorem waI_asg {q : Nat} (hq : q ≤ eT s) (A : waI s q) {l : Nat} {r : Int} : waI (asg s l r) q := by
  intro k hk i hi e
  rw [asg_X (by omega)] at e
  obtain ⟨j, j1, j2, j3⟩ := A k hk i hi e
  exact ⟨j, by show j < eT s + 1; omega, by rw [asg_X j1]; exact j2, by rw [asg_d (by omega), asg_d (by omega)]; exact j3⟩
theorem uI_asg {q : Nat} (U : uI s q) {l : Nat} {r : Int} (hr : r ≠ -2) : uI (asg s l r) q := by
  refine ⟨by show q ≤ eT s + 1; have := U.1; omega, fun i h1 h2 => ?_⟩
  have h2 : i < eT s + 1 := h2
  show dcn (eR (asg s l r)) (i + 1) = dcn (eR (asg s l r)) (eT s + 1)
  rw [asg_dn, if_neg hr]
  by_cases e : i = eT s
  · rw [e, asg_dn, if_neg hr]
  · rw [asg_d (by omega)]; exact U.2 i h1 (by omega)
/-- the links of one clause -/
theorem ng_l {k m : Nat} (h : k < 2 * m) : ng k < 2 * m := by have := ng_2 k; omega
theorem wl_ne (I : clI z s) {k : Nat} (hk : k < 2 * eM s) : wl s k / 2 ≠ wl s (ng k) / 2 := by
  intro e
  have i1 := inR_w I hk
  have i2 := inR_w I (ng_l hk)
  rw [ng_2] at i2
  unfold wl at e
  rw [ng_2] at e
  have := I.2.2.2.1 (k / 2) _ _ (by omega) i1 i2 e
  have := ng_m k
  omega
theorem wl_exc (I : clI z s) {k p j : Nat} (hk : k < 2 * eM s) (hp : eF s (k / 2) + 2 ≤ p ∧ p < eF s (k / 2 + 1)) (hj : j < 2 * eM s) : wl (exc s (eF s (k / 2) + k % 2) p) j = if j = k then eP s p else wl s j := by
  show (if eF s (j / 2) + j % 2 = eF s (k / 2) + k % 2 then eP s p else if eF s (j / 2) + j % 2 = p then eP s (eF s (k / 2) + k % 2) else eP s (eF s (j / 2) + j % 2)) = _
  by_cases e : j = k
  · rw [if_pos e, e, if_pos rfl]
  · have jw := inR_w I hj
    have hw := inR_w I hk
    have ne : j / 2 ≠ k / 2 → eF s (j / 2 + 1) ≤ eF s (k / 2) ∨ eF s (k / 2 + 1) ≤ eF s (j / 2) := by
      intro ne
      by_cases y : j / 2 < k / 2
      · exact Or.inl (fr_mono I (by omega) (by omega))
      · exact Or.inr (fr_mono I (by omega) (by omega))
    unfold inR at jw hw
    rw [if_neg e, if_neg, if_neg]
    · rfl
    · intro e'
      by_cases y : j / 2 = k / 2
      · rw [y] at e'; omega
      · have := ne y; omega
    · intro e'
      by_cases y : j / 2 = k / 2
      · rw [y] at e'; omega
      · have := ne y; omega
/-- what is known of the links of the literal that is looked at -/
def prI (s : Se) (q l0 : Nat) (R : List Nat) : Prop := ∀ k, k < 2 * eM s → wl s k = l0 → k ∉ R → ∃ j, j < eT s ∧ eX s j = wl s (ng k) ∧ dcn (eR s) (j + 1) ≤ dcn (eR s) (q + 1)
theorem waI_exc (I : clI z s) (T : trI z s) {k p q : Nat} (hk : k < 2 * eM s) (hp : eF s (k / 2) + 2 ≤ p ∧ p < eF s (k / 2 + 1)) (hq : q < eT s) (hl : eX s q = ng (wl s k)) (ho : ¬ ∃ i, i < eT s ∧ eX s i = ng (eP s p)) (A : waI s q) : waI (exc s (eF s (k / 2) + k % 2) p) q := by
  intro j hj i hi e
  have hj : j < 2 * eM s := hj
  have e : eX s i = ng (wl (exc s (eF s (k / 2) + k % 2) p) j) := e
  rw [wl_exc I hk hp hj] at e
  by_cases y : j = k
  · rw [if_pos y] at e
    exact absurd ⟨i, by omega, e⟩ ho
  · rw [if_neg y] at e
    obtain ⟨a, a1, a2, a3⟩ := A j hj i hi e
    by_cases w : ng j = k
    · rw [w] at a2
      exact (tv_not T ⟨a1, a2⟩ ⟨hq, hl⟩).elim
    · exact ⟨a, a1, by rw [wl_exc I hk hp (ng_l hj), if_neg w]; exact a2, a3⟩
theorem prI_exc (I : clI z s) {k p q l0 : Nat} {R : List Nat} (hk : k < 2 * eM s) (hp : eF s (k / 2) + 2 ≤ p ∧ p < eF s (k / 2 + 1)) (hq : q < eT s) (hl0 : wl s k = l0) (hl : eX s q = ng l0) (ho : ¬ ∃ i, i < eT s ∧ eX s i = ng (eP s p)) (P : prI s q l0 (k :: R)) : prI (exc s (eF s (k / 2) + k % 2) p) q l0 R := by
  intro j hj e nR
  have hj : j < 2 * eM s := hj
  rw [wl_exc I hk hp hj] at e
  by_cases y : j = k
  · rw [if_pos y] at e
    exact absurd ⟨q, hq, by rw [e]; exact hl⟩ ho
  · rw [if_neg y] at e
    by_cases w : ng j = k
    · exfalso
      apply wl_ne I hj
      rw [w, hl0, e]
    · obtain ⟨a, a1, a2, a3⟩ := P j hj e (fun m => by rcases List.mem_cons.mp m with m | m; exact y m; exact nR m)
      exact ⟨a, a1, by rw [wl_exc I hk hp (ng_l hj), if_neg w]; exact a2, a3⟩
theorem prI_asg {q l0 : Nat} {R : List Nat} (hq : q < eT s) (P : prI s q l0 R) {l : Nat} {r : Int} : prI (asg s l r) q l0 R := by
  intro j hj e nR
  obtain ⟨a, a1, a2, a3⟩ := P j hj e nR
  exact ⟨a, by show a < eT s + 1; omega, by rw [asg_X a1]; exact a2, by rw [asg_d (by omega), asg_d (by omega)]; exact a3⟩
theorem prI_cons {k q l0 : Nat} {R : List Nat} (P : prI s q l0 (k :: R)) (hk : ∃ j, j < eT s ∧ eX s j = wl s (ng k) ∧ dcn (eR s) (j + 1) ≤ dcn (eR s) (q + 1)) : prI s q l0 R := by
  intro j hj e nR
  by_cases y : j = k
  · rw [y]; exact hk
  · exact P j hj e (fun m => by rcases List.mem_cons.mp m with m | m; exact y m; exact nR m)
theorem waI_next (T : trI z s) {q : Nat} (hq : q < eT s) (A : waI s q) (P : prI s q (ng (eX s q)) []) : waI s (q + 1) := by
  intro k hk i hi e
  by_cases y : i = q
  · rw [y] at e ⊢
    exact P k hk (by rw [e, ng_ng]) (by simp)
  · exact A k hk i (by omega) e
end IV
