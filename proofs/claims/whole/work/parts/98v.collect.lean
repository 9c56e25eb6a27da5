/-! the search: markClause, collectDecisions -/
def MkC (z : Nat) (M : Nat → Prop) (h : mx_H) : Prop := ∀ g, g < z → (M g ∧ h.1 40 g = iI 1) ∨ (¬ M g ∧ h.1 40 g = iI 0)
theorem MkC_e {z : Nat} {M M' : Nat → Prop} {h : mx_H} (e : ∀ g, M g ↔ M' g) (K : MkC z M h) : MkC z M' h := fun g hg => by
  rcases K g hg with q | q
  · exact Or.inl ⟨(e g).mp q.1, q.2⟩
  · exact Or.inr ⟨fun y => q.1 ((e g).mpr y), q.2⟩
theorem MkC_1 {z : Nat} {M : Nat → Prop} {h : mx_H} {u : Nat} (K : MkC z M h) : MkC z (fun g => M g ∨ g = u) (mx_u h.1 40 u (iI 1), h.2.1, h.2.2) := fun g hg => by
  dsimp only
  by_cases e : g = u
  · exact Or.inl ⟨Or.inr e, by rw [e, mu_s]⟩
  · rw [mu_k _ _ e]
    rcases K g hg with q | q
    · exact Or.inl ⟨Or.inl q.1, q.2⟩
    · exact Or.inr ⟨fun y => y.elim q.1 e, q.2⟩
theorem MkC_0 {z : Nat} {M : Nat → Prop} {h : mx_H} {u : Nat} (K : MkC z M h) : MkC z (fun g => M g ∧ g ≠ u) (mx_u h.1 40 u (iI 0), h.2.1, h.2.2) := fun g hg => by
  dsimp only
  by_cases e : g = u
  · exact Or.inr ⟨fun y => y.2 e, by rw [e, mu_s]⟩
  · rw [mu_k _ _ e]
    rcases K g hg with q | q
    · exact Or.inl ⟨⟨q.1, e⟩, q.2⟩
    · exact Or.inr ⟨fun y => q.1 y.1, q.2⟩
def M4F (h h' : mx_H) : Prop := (∀ a k, a ≠ 40 → h'.1 a k = h.1 a k) ∧ h'.2 = h.2
def CoF (h h' : mx_H) : Prop := (∀ a k, a ≠ 40 → a ≠ 45 → (a ≠ 33 ∨ k ≠ 13) → h'.1 a k = h.1 a k) ∧ h'.2 = h.2
theorem CoF_t {a b c : mx_H} (x : CoF a b) (y : CoF b c) : CoF a c := ⟨fun i k p1 p2 p3 => by rw [y.1 i k p1 p2 p3, x.1 i k p1 p2 p3], by rw [y.2, x.2]⟩
section CO
variable {z : Nat} {gs : Nat → Gt} {N : Nat} {od : Nat → Nat} {Sol : Int → Prop} {s : Se}
theorem markClause_10 (z6 : z ≤ 1065) (I : clI z s) {c : Nat} (hc : c < eM s) : ∀ (d p : Nat) (h : mx_H) (M : Nat → Prop), p + d = eF s (c + 1) → eF s c ≤ p → ClC s h → MkC z M h → ∃ h', mx_D (1, mm_X6_markClause, 10, [.ref 33, .int (iI ((c : Int))), .int (iI ((p : Int)))], []) h = some (none, h') ∧ MkC z (fun g => M g ∨ ∃ x, (p ≤ x ∧ x < eF s (c + 1)) ∧ eP s x / 2 = g) h' ∧ M4F h h' := by
  have m5 := I.2.2.2.2.1
  have f8 := I.2.2.2.2.2
  have fc := fr_mono I (show c + 1 ≤ eM s from hc) (Nat.le_refl _)
  intro d
  induction d with
  | zero =>
    intro p h M hp hp2 C K
    refine ⟨h, ?_, MkC_e (fun g => ⟨fun y => Or.inl y, fun y => y.elim id (fun ⟨x, x1, _⟩ => by omega)⟩) K, fun _ _ _ => rfl, rfl⟩
    rw [e_X6_markClause_10, ii_s, if_pos (in_ (by omega) (by decide)), cln (by omega), C.2.1 (c + 1) hc, if_pos ((ii_le (by omega)).mpr (by omega))]
  | succ d ih =>
    intro p h M hp hp2 C K
    have lb := I.2.2.1 p (by omega)
    obtain ⟨h', r1, r2, r3⟩ := ih (p + 1) (mx_u h.1 40 (eP s p / 2) (iI 1), h.2.1, h.2.2) (fun g => M g ∨ g = eP s p / 2) (by omega) (by omega) (ClC_k C (fun a k p1 p2 => by dsimp only; rw [mu_c _ _ _ _ (by omega)])) (MkC_1 K)
    refine ⟨h', ?_, MkC_e (fun g => ?_) r2, fun a k ha => by rw [r3.1 a k ha]; dsimp only; rw [mu_c _ _ _ _ ha], by rw [r3.2]⟩
    · rw [e_X6_markClause_10, ii_s, if_pos (in_ (by omega) (by decide)), cln (by omega), C.2.1 (c + 1) hc, if_neg (fun e => by have := (ii_le (by omega)).mp e; omega), if_pos (in_ (by omega) (by decide)), cln (by omega), C.2.2.2 p (by omega), ii_h (by omega), if_pos (in_ (by omega) (by decide)), cln (by omega), ii_s]
      exact r1
    · constructor
      · rintro ((y | y) | ⟨x, x1, x2⟩)
        · exact Or.inl y
        · exact Or.inr ⟨p, ⟨Nat.le_refl _, by omega⟩, y.symm⟩
        · exact Or.inr ⟨x, ⟨by omega, x1.2⟩, x2⟩
      · rintro (y | ⟨x, x1, x2⟩)
        · exact Or.inl (Or.inl y)
        · by_cases e : x = p
          · exact Or.inl (Or.inr (by rw [← x2, e]))
          · exact Or.inr ⟨x, ⟨by omega, x1.2⟩, x2⟩
theorem X6_markClause_c (z6 : z ≤ 1065) (I : clI z s) {c : Nat} (hc : c < eM s) {h : mx_H} {M : Nat → Prop} (C : ClC s h) (K : MkC z M h) : ∃ h', mx_C mm_X6_markClause [.ref 33, .int (iI ((c : Int)))] h = some (none, h') ∧ MkC z (fun g => M g ∨ ∃ l, inC s c l ∧ l / 2 = g) h' ∧ M4F h h' := by
  have m5 := I.2.2.2.2.1
  have i2 := I.2.1 c hc
  obtain ⟨h', r1, r2, r3⟩ := markClause_10 z6 I hc (eF s (c + 1) - eF s c) (eF s c) h M (by omega) (Nat.le_refl _) C K
  refine ⟨h', ?_, MkC_e (fun g => ?_) r2, r3⟩
  · rw [c_X6_markClause, e_X6_markClause_0, if_pos (in_ (by omega) (by decide)), cln (by omega), C.2.1 c (by omega)]
    exact r1
  · constructor
    · rintro (y | ⟨x, x1, x2⟩)
      · exact Or.inl y
      · exact Or.inr ⟨_, ⟨x, x1, rfl⟩, x2⟩
    · rintro (y | ⟨l, ⟨x, x1, x2⟩, l2⟩)
      · exact Or.inl y
      · exact Or.inr ⟨x, x1, by rw [x2]; exact l2⟩
def CJ (z : Nat) (gs : Nat → Gt) (Sol : Int → Prop) (s : Se) (M : Nat → Prop) (w : Nat) (g ix : Nat → Nat) (i : Nat) (h : mx_H) : Prop := MkC z M h ∧ (∀ u, M u → ∃ j, j < i ∧ eX s j / 2 = u) ∧ h.1 33 13 = iI (w : Int) ∧ (∀ j, j < w → h.1 45 j = iI (g j : Int)) ∧ (∀ j, j < w → i ≤ ix j ∧ ix j < eT s ∧ eR s (ix j) = -2 ∧ g j = ng (eX s (ix j))) ∧ (∀ j j', j < j' → j' < w → ix j' < ix j) ∧ w + dcn (eR s) i ≤ dcn (eR s) (eT s) ∧ ∀ x, Sol x → (∀ j, j < w → lv gs x (g j) = false) → (∀ j, j < i → M (eX s j / 2) → lv gs x (eX s j) = true) → False
theorem collect_17 (z6 : z ≤ 1065) (I : clI z s) (T : trI z s) (S : sdI gs Sol s) (RI : rsI gs N od Sol s) (d8 : dcn (eR s) (eT s) ≤ 8) {v1 : Int32} : ∀ (i : Nat) (M : Nat → Prop) (w : Nat) (g ix : Nat → Nat) (h : mx_H) (v3 : Value), i ≤ eT s → ClC s h → TrC z s h → CJ z gs Sol s M w g ix i h → ∃ w' g' ix' h', mx_D (2, mm_X6_collectDecisions, 17, [.ref 33, .int v1, .int (iI ((i : Int) - 1)), v3], []) h = some (none, h') ∧ CJ z gs Sol s (fun _ => False) w' g' ix' 0 h' ∧ CoF h h' := by
  have Tl := tr_l6 T z6
  have m5 := I.2.2.2.2.1
  intro i
  induction i with
  | zero =>
    intro M w g ix h v3 hi C TC J
    obtain ⟨J1, J2, J3, J4, J5, J6, J7, J8⟩ := J
    have em : ∀ u, M u ↔ False := fun u => ⟨fun y => by obtain ⟨j, j1, _⟩ := J2 u y; omega, fun y => y.elim⟩
    refine ⟨w, g, ix, h, ?_, ⟨MkC_e em J1, fun u y => y.elim, J3, J4, J5, J6, J7, fun x hx h1 _ => J8 x hx h1 (fun j hj => by omega)⟩, fun _ _ _ _ _ => rfl, rfl⟩
    rw [e_X6_collectDecisions_17, if_pos (by decide)]
  | succ i ih =>
    intro M w g ix h v3 hi C TC J
    obtain ⟨J1, J2, J3, J4, J5, J6, J7, J8⟩ := J
    have lb := T.1 i (by omega)
    have ei : ((i + 1 : Nat) : Int) - 1 = (i : Int) := by omega
    have sh : iI (eX s i : Int) >>> (1 &&& 31) = iI ((eX s i / 2 : Nat) : Int) := ii_h (by omega)
    have di : dcn (eR s) (i + 1) = dcn (eR s) i + (if eR s i = -2 then 1 else 0) := rfl
    have rs := (TC.2.1 i (by omega)).2.2
    have wb : w ≤ 8 := by omega
    -- to the entry before
    have go : ∀ (M' : Nat → Prop) (w' : Nat) (g' ix' : Nat → Nat) (h' : mx_H), ClC s h' → TrC z s h' → CoF h h' → CJ z gs Sol s M' w' g' ix' i h' → ∀ X v3, X = mx_D (2, mm_X6_collectDecisions, 115, [.ref 33, .int v1, .int (iI ((i : Int))), .int v3], []) h' → ∃ w' g' ix' h', X = some (none, h') ∧ CJ z gs Sol s (fun _ => False) w' g' ix' 0 h' ∧ CoF h h' := by
      intro M' w' g' ix' h' C' TC' F' J' X v3 hX
      obtain ⟨w2, g2, ix2, h2, r1, r2, r3⟩ := ih M' w' g' ix' h' (.int v3) (by omega) C' TC' J'
      refine ⟨w2, g2, ix2, h2, ?_, r2, CoF_t F' r3⟩
      rw [hX, e_X6_collectDecisions_115, show iI (i : Int) + (-1) = iI ((i : Int) - 1) from by rw [show (-1 : Int32) = iI (-1) by decide, ii_add]; rfl]
      exact r1
    have C0 : ∀ h', CoF h h' → ClC s h' ∧ TrC z s h' := fun h' F => ⟨ClC_k C (fun a k p1 p2 => F.1 a k (by omega) (by omega) (by omega)), TrC_k TC (fun a k p1 p2 => F.1 a k (by omega) (by omega) (by omega))⟩
    have unm : ∀ (M1 : Nat → Prop) (w' : Nat) (g' ix' : Nat → Nat) (h1 : mx_H), CoF h h1 → MkC z M1 h1 → (∀ u, M1 u → u ≠ eX s i / 2 → ∃ j, j < i ∧ eX s j / 2 = u) → h1.1 33 13 = iI (w' : Int) → (∀ j, j < w' → h1.1 45 j = iI (g' j : Int)) → (∀ j, j < w' → i ≤ ix' j ∧ ix' j < eT s ∧ eR s (ix' j) = -2 ∧ g' j = ng (eX s (ix' j))) → (∀ j j', j < j' → j' < w' → ix' j' < ix' j) → w' + dcn (eR s) i ≤ dcn (eR s) (eT s) → (∀ x, Sol x → (∀ j, j < w' → lv gs x (g' j) = false) → (∀ j, j < i → M1 (eX s j / 2) → lv gs x (eX s j) = true) → False) → ∀ X, X = mx_D (2, mm_X6_collectDecisions, 108, [.ref 33, .int v1, .int (iI ((i : Int))), .int (iI (((eX s i / 2 : Nat) : Int)))], []) h1 → ∃ w' g' ix' h', X = some (none, h') ∧ CJ z gs Sol s (fun _ => False) w' g' ix' 0 h' ∧ CoF h h' := by
      intro M1 w' g' ix' h1 F1 K1 q1 q2 q3 q4 q5 q6 q7 X hX
      have F2 : CoF h (mx_u h1.1 40 (eX s i / 2) (iI 0), h1.2.1, h1.2.2) := ⟨fun a k p1 p2 p3 => by dsimp only; rw [mu_c _ _ _ _ p1]; exact F1.1 a k p1 p2 p3, F1.2⟩
      obtain ⟨C', TC'⟩ := C0 _ F2
      refine go (fun u => M1 u ∧ u ≠ eX s i / 2) w' g' ix' _ C' TC' F2 ⟨MkC_0 K1, fun u y => q1 u y.1 y.2, ?_, fun j hj => ?_, q4, q5, q6, fun x hx h1 h2 => q7 x hx h1 (fun j hj y => h2 j hj ⟨y, T.2 j i hj (by omega)⟩)⟩ X (iI ((eX s i / 2 : Nat) : Int)) ?_
      · dsimp only; rw [mu_c _ _ _ _ (by decide)]; exact q2
      · dsimp only; rw [mu_c _ _ _ _ (by decide)]; exact q3 j hj
      · rw [hX, e_X6_collectDecisions_108, if_pos (in_ (by omega) (by decide)), cln (by omega)]
        rfl
    rw [ei, e_X6_collectDecisions_17, if_neg (show ¬ iI (i : Int) < 0 from fun e => by have := (ii_lt (b := 0) (by omega)).mp e; omega), if_pos (in_ (by omega) (by decide)), cln (by omega), TC.1 i (by omega), sh, if_pos (in_ (by omega) (by decide)), cln (by omega)]
    rcases J1 (eX s i / 2) (by omega) with ⟨mk, m1⟩ | ⟨mk, m0⟩
    · rw [m1, if_neg (show ¬ iI 1 = (0 : Int32) by decide), if_pos (in_ (by omega) (by decide)), rs]
      rcases RI i (by omega) with ⟨r, gv⟩ | ⟨r, dc⟩ | ⟨c, c1, r, c3, c4⟩
      · -- given
        rw [r, if_pos (by decide), if_pos (in_ (by omega) (by decide)), if_neg (by decide)]
        rw [r, if_neg (by decide)] at di
        refine unm M w g ix h ⟨fun _ _ _ _ _ => rfl, rfl⟩ J1 (fun u y ne => ?_) J3 J4 (fun j hj => by have := J5 j hj; exact ⟨by omega, this.2⟩) J6 (by omega) (fun x hx h1 h2 => J8 x hx h1 (fun j hj y => ?_)) _ rfl
        · obtain ⟨j, j1, j2⟩ := J2 u y
          exact ⟨j, by have : j ≠ i := fun e => ne (by rw [← j2, e]); omega, j2⟩
        · by_cases e : j = i
          · rw [e]; exact gv x hx
          · exact h2 j (by omega) y
      · -- decided
        rw [r, if_pos (by decide), if_pos (in_ (by omega) (by decide)), if_pos (by decide), J3]
        rw [r, if_pos rfl] at di
        have w8 : w < 8 := by omega
        have F1 : CoF h (mx_u (mx_u h.1 45 w (iI (ng (eX s i) : Int))) 33 13 (iI ((w + 1 : Nat) : Int)), h.2.1, h.2.2) := ⟨fun a k p1 p2 p3 => by dsimp only [mx_u]; rw [if_neg (by omega), if_neg (by omega)], rfl⟩
        refine unm M (w + 1) (fun j => if j = w then ng (eX s i) else g j) (fun j => if j = w then i else ix j) _ F1 (fun u hu => ?_) (fun u y ne => ?_) ?_ (fun j hj => ?_) (fun j hj => ?_) (fun j j' h1 h2 => ?_) (by omega) (fun x hx h1 h2 => J8 x hx (fun j hj => ?_) (fun j hj y => ?_)) _ ?_
        · have := J1 u hu
          dsimp only
          rw [mu_c _ _ _ _ (by decide), mu_c _ _ _ _ (by decide)]
          exact this
        · obtain ⟨j, j1, j2⟩ := J2 u y
          exact ⟨j, by have : j ≠ i := fun e => ne (by rw [← j2, e]); omega, j2⟩
        · dsimp only; rw [mu_s]
        · dsimp only; rw [mu_c _ _ _ _ (by decide)]
          by_cases e : j = w
          · rw [if_pos e, e, mu_s]
          · rw [if_neg e, mu_k _ _ e]; exact J4 j (by omega)
        · by_cases e : j = w
          · rw [if_pos e, if_pos e]; exact ⟨Nat.le_refl _, by omega, r, rfl⟩
          · rw [if_neg e, if_neg e]; have := J5 j (by omega); exact ⟨by omega, this.2⟩
        · rw [if_neg (show j ≠ w by omega)]
          by_cases e : j' = w
          · rw [if_pos e]; have := J5 j (by omega); omega
          · rw [if_neg e]; exact J6 j j' h1 (by omega)
        · have := h1 j (by omega); rw [if_neg (show j ≠ w by omega)] at this; exact this
        · by_cases e : j = i
          · have := h1 w (by omega)
            rw [if_pos rfl, lv_ng] at this
            rw [e]
            cases q : lv gs x (eX s i) with
            | true => rfl
            | false => rw [q] at this; cases this
          · exact h2 j (by omega) y
        · rw [if_neg (show ¬ (8 : Int32) ≤ iI (w : Int) from fun e => by have := (ii_le (a := 8) (by omega)).mp e; omega), if_pos (in_ (by omega) (by decide)), if_pos (in_ (by omega) (by decide)), cln (by omega), ii_ng (by omega), mu_c _ _ _ _ (by decide), J3, ii_s]
      · -- by a clause
        rw [r, if_neg (show ¬ iI (c : Int) < 0 from fun e => by have := (ii_lt (b := 0) (by omega)).mp e; omega), if_pos (in_ (by omega) (by decide))]
        rw [r, if_neg (by omega)] at di
        obtain ⟨h1, k1, k2, k3⟩ := X6_markClause_c z6 I c1 C J1
        have F1 : CoF h h1 := ⟨fun a k p1 p2 p3 => k3.1 a k p1, k3.2⟩
        rw [k1]
        refine unm (fun u => M u ∨ ∃ l, inC s c l ∧ l / 2 = u) w g ix h1 F1 k2 (fun u y ne => ?_) (by rw [k3.1 _ _ (by decide)]; exact J3) (fun j hj => by rw [k3.1 _ _ (by decide)]; exact J4 j hj) (fun j hj => by have := J5 j hj; exact ⟨by omega, this.2⟩) J6 (by omega) (fun x hx h1 h2 => J8 x hx h1 (fun j hj y => ?_)) _ (e_X6_collectDecisions_58 ..)
        · rcases y with y | ⟨l, l1, l2⟩
          · obtain ⟨j, j1, j2⟩ := J2 u y
            exact ⟨j, by have : j ≠ i := fun e => ne (by rw [← j2, e]); omega, j2⟩
          · obtain ⟨j, j1, j2⟩ := c4 l l1 (fun e => ne (by rw [← l2, e]))
            exact ⟨j, j1, by rw [j2, ng_2]; exact l2⟩
        · by_cases e : j = i
          · rw [e]
            obtain ⟨l, l1, l2⟩ := S c c1 x hx
            by_cases el : l = eX s i
            · rw [← el]; exact l2
            · obtain ⟨j', a1, a2⟩ := c4 l l1 el
              have := h2 j' a1 (Or.inr ⟨l, l1, by rw [a2, ng_2]⟩)
              rw [a2, lv_ng, l2] at this
              cases this
          · exact h2 j (by omega) (Or.inl y)
    · rw [m0, if_pos (show iI 0 = (0 : Int32) from rfl)]
      refine go M w g ix h C TC ⟨fun _ _ _ _ _ => rfl, rfl⟩ ⟨J1, fun u y => ?_, J3, J4, fun j hj => by have := J5 j hj; exact ⟨by omega, this.2⟩, J6, by omega, fun x hx h1 h2 => J8 x hx h1 (fun j hj y => ?_)⟩ _ _ rfl
      · obtain ⟨j, j1, j2⟩ := J2 u y
        exact ⟨j, by have : j ≠ i := fun e => mk (by rw [← e, j2]; exact y); omega, j2⟩
      · by_cases e : j = i
        · rw [e] at y; exact absurd y mk
        · exact h2 j (by omega) y
theorem X6_collect_c (z6 : z ≤ 1065) (I : clI z s) (T : trI z s) (S : sdI gs Sol s) (RI : rsI gs N od Sol s) (d8 : dcn (eR s) (eT s) ≤ 8) {c : Nat} (hc : c < eM s) (al : ∀ l, inC s c l → ∃ i, i < eT s ∧ eX s i = ng l) {h : mx_H} (C : ClC s h) (TC : TrC z s h) (h9 : h.1 33 9 = iI (eT s : Int)) (K : MkC z (fun _ => False) h) : ∃ w g ix h', mx_C mm_X6_collectDecisions [.ref 33, .int (iI ((c : Int)))] h = some (none, h') ∧ CJ z gs Sol s (fun _ => False) w g ix 0 h' ∧ CoF h h' := by
  have Tl := tr_l6 T z6
  obtain ⟨h0, hh⟩ : ∃ h0 : mx_H, h0 = (mx_u h.1 33 13 0, h.2.1, h.2.2) := ⟨_, rfl⟩
  have o1 : ∀ a k, a ≠ 33 ∨ k ≠ 13 → h0.1 a k = h.1 a k := fun a k ha => by rw [hh]; dsimp only [mx_u]; rw [if_neg (by omega)]
  have C0 := ClC_k C (h' := h0) (fun a k p1 p2 => o1 a k (by omega))
  obtain ⟨h1, k1, k2, k3⟩ := X6_markClause_c z6 I hc C0 (fun u hu => by have := K u hu; rw [o1 40 u (by omega)]; exact this : MkC z (fun _ => False) h0)
  have F1 : CoF h h1 := ⟨fun a k p1 p2 p3 => by rw [k3.1 a k p1, o1 a k p3], by rw [k3.2, hh]⟩
  have J : CJ z gs Sol s (fun g => False ∨ ∃ l, inC s c l ∧ l / 2 = g) 0 (fun _ => 0) (fun _ => 0) (eT s) h1 := by
    refine ⟨k2, fun u y => ?_, ?_, fun j hj => by omega, fun j hj => by omega, fun j j' _ hj => by omega, by omega, fun x hx _ h2 => ?_⟩
    · rcases y with y | ⟨l, l1, l2⟩
      · exact y.elim
      · obtain ⟨j, j1, j2⟩ := al l l1
        exact ⟨j, j1, by rw [j2, ng_2]; exact l2⟩
    · rw [k3.1 _ _ (by decide), hh]; dsimp only; rw [mu_s]; rfl
    · obtain ⟨l, l1, l2⟩ := S c hc x hx
      obtain ⟨j, j1, j2⟩ := al l l1
      have := h2 j j1 (Or.inr ⟨l, l1, by rw [j2, ng_2]⟩)
      rw [j2, lv_ng, l2] at this
      cases this
  obtain ⟨w, g, ix, h2, r1, r2, r3⟩ := collect_17 z6 I T S RI d8 (v1 := iI (c : Int)) (eT s) _ 0 _ _ h1 mx_junk (Nat.le_refl _) (ClC_k C (fun a k p1 p2 => F1.1 a k (by omega) (by omega) (by omega))) (TrC_k TC (fun a k p1 p2 => F1.1 a k (by omega) (by omega) (by omega))) J
  refine ⟨w, g, ix, h2, ?_, r2, CoF_t F1 r3⟩
  rw [c_X6_collectDecisions, e_X6_collectDecisions_0, ← hh, k1]
  refine Eq.trans (e_X6_collectDecisions_10 ..) ?_
  rw [F1.1 33 9 (by decide) (by decide) (by decide), h9, show iI (eT s : Int) - 1 = iI ((eT s : Int) - 1) from ii_sub _ 1]
  exact r1
end CO
