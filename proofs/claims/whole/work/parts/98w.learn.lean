/-! the search: learnFrom -/
section LE
variable {z : Nat} {gs : Nat → Gt} {N : Nat} {od : Nat → Nat} {Sol : Int → Prop} {s : Se}
def ctT (s : Se) (t : Nat) : Se := (eM s, eF s, eP s, t, eX s, eR s, t)
theorem inC_fin (I : clI z s) {g : Nat → Nat} {w c l : Nat} (hc : c < eM s) : inC (fin s g w) c l ↔ inC s c l := by
  have F0 : ∀ c, c ≤ eM s → eF (fin s g w) c = eF s c := fun c hc => if_neg (by omega)
  have P0 : ∀ p, p < eF s (eM s) → eP (fin s g w) p = eP s p := fun p hp => if_neg (by omega)
  unfold inC inR
  rw [F0 c (by omega), F0 (c + 1) (by omega)]
  constructor
  · rintro ⟨p, p1, p2⟩
    rw [P0 p (inR_lt I hc p1)] at p2
    exact ⟨p, p1, p2⟩
  · rintro ⟨p, p1, p2⟩
    exact ⟨p, p1, by rw [P0 p (inR_lt I hc p1)]; exact p2⟩
theorem inC_new {g : Nat → Nat} {w l : Nat} : inC (fin s g w) (eM s) l ↔ ∃ j, j < w ∧ g j = l := by
  have F0 : eF (fin s g w) (eM s) = eF s (eM s) := if_neg (by omega)
  have F1 : eF (fin s g w) (eM s + 1) = eF s (eM s) + w := if_pos rfl
  have P1 : ∀ p, eF s (eM s) ≤ p → eP (fin s g w) p = g (p - eF s (eM s)) := fun p hp => if_pos hp
  unfold inC inR
  rw [F0, F1]
  constructor
  · rintro ⟨p, p1, p2⟩
    rw [P1 p p1.1] at p2
    exact ⟨p - eF s (eM s), by omega, p2⟩
  · rintro ⟨j, j1, j2⟩
    exact ⟨eF s (eM s) + j, by omega, by rw [P1 _ (by omega), show eF s (eM s) + j - eF s (eM s) = j by omega]; exact j2⟩
theorem wl_fin (I : clI z s) {g : Nat → Nat} {w k : Nat} (hk : k < 2 * eM s) : wl (fin s g w) k = wl s k := by
  have F0 : ∀ c, c ≤ eM s → eF (fin s g w) c = eF s c := fun c hc => if_neg (by omega)
  have P0 : ∀ p, p < eF s (eM s) → eP (fin s g w) p = eP s p := fun p hp => if_neg (by omega)
  unfold wl
  rw [F0 _ (by omega), P0 _ (inR_lt I (show k / 2 < eM s by omega) (inR_w I hk))]
theorem wl_new {g : Nat → Nat} {w b : Nat} (hb : b < 2) : wl (fin s g w) (2 * eM s + b) = g b := by
  have F0 : eF (fin s g w) (eM s) = eF s (eM s) := if_neg (by omega)
  have P1 : ∀ p, eF s (eM s) ≤ p → eP (fin s g w) p = g (p - eF s (eM s)) := fun p hp => if_pos hp
  unfold wl
  rw [show (2 * eM s + b) / 2 = eM s by omega, F0, P1 _ (by omega)]
  congr 1
  omega
/-- what is learned from a conflict: where to go back, and what holds then -/
theorem learn_cut {q : Nat} (U : uI s q) {t' back i0 : Nat} (hq : q < eT s) (r3 : ∀ i, i < t' → dcn (eR s) (i + 1) ≤ back) (h0 : i0 < eT s) (hb : back < dcn (eR s) (i0 + 1)) : t' ≤ q ∧ t' ≤ i0 := by
  refine ⟨?_, ?_⟩
  · by_cases y : t' ≤ q
    · exact y
    · have a := r3 q (by omega)
      rw [U.2 q (Nat.le_refl _) hq] at a
      have := dcn_mono (R := eR s) (show i0 + 1 ≤ eT s by omega)
      omega
  · by_cases y : t' ≤ i0
    · exact y
    · have a := r3 i0 (by omega)
      omega
theorem trI_ct (T : trI z s) {t : Nat} (ht : t ≤ eT s) : trI z (ctT s t) := ⟨fun i hi => T.1 i (by have : i < t := hi; omega), fun i j p1 p2 => T.2 i j p1 (by have : j < t := p2; omega)⟩
theorem rsI_ct (S : rsI gs N od Sol s) {t : Nat} (ht : t ≤ eT s) : rsI gs N od Sol (ctT s t) := fun i hi => S i (by have : i < t := hi; omega)
theorem waI_ct {q : Nat} (A : waI s q) (hq : q ≤ eT s) {t' back : Nat} (tq : t' ≤ q) (r3 : ∀ i, i < t' → dcn (eR s) (i + 1) ≤ back) (r4 : ∀ i, t' ≤ i → i < eT s → back < dcn (eR s) (i + 1)) : waI (ctT s t') t' := by
  intro k hk i hi e
  obtain ⟨j, j1, j2, j3⟩ := A k hk i (by omega) e
  refine ⟨j, ?_, j2, j3⟩
  show j < t'
  by_cases y : j < t'
  · exact y
  · have := r4 j (by omega) j1
    have := r3 i hi
    omega
theorem rsI_fin (I : clI z s) (S : rsI gs N od Sol s) {g : Nat → Nat} {w : Nat} : rsI gs N od Sol (fin s g w) := by
  intro i hi
  rcases S i hi with q | q | ⟨c, c1, c2, c3, c4⟩
  · exact Or.inl q
  · exact Or.inr (Or.inl q)
  · exact Or.inr (Or.inr ⟨c, by show c < eM s + 1; omega, c2, (inC_fin I c1).mpr c3, fun l hl ne => c4 l ((inC_fin I c1).mp hl) ne⟩)
theorem sdI_fin (I : clI z s) (S : sdI gs Sol s) {g : Nat → Nat} {w : Nat} (hg : ∀ x, Sol x → ∃ j, j < w ∧ lv gs x (g j) = true) : sdI gs Sol (fin s g w) := by
  intro c hc x hx
  have hc : c < eM s + 1 := hc
  by_cases e : c = eM s
  · rw [e]
    obtain ⟨j, j1, j2⟩ := hg x hx
    exact ⟨g j, inC_new.mpr ⟨j, j1, rfl⟩, j2⟩
  · obtain ⟨l, l1, l2⟩ := S c (by omega) x hx
    exact ⟨l, (inC_fin I (by omega)).mpr l1, l2⟩
end LE
/-- gathering what was learned -/
theorem learn_43 {z : Nat} {s : Se} {v1 v2 v3 : Int32} {w : Nat} {g : Nat → Nat} (I : clI z s) (w8 : w ≤ 8) (rm : eF s (eM s) + 8 ≤ 14828) : ∀ (d j : Nat) (h : mx_H), j + d = w → GaC s g j h → h.1 33 13 = iI (w : Int) → (∀ i, i < w → h.1 45 i = iI (g i : Int)) → ∃ h', mx_D (13, mm_X6_learnFrom, 43, [.ref 33, .int v1, .int v2, .int v3, .int (iI ((j : Int)))], []) h = (mx_C mm_X2_finish [.ref 34] h').bind (fun o => mx_D (13, mm_X6_learnFrom, 79, [.ref 33, .int v1, .int v2, .int v3, .int (iI ((w : Int)))], o.1.toList ++ []) o.2) ∧ GaC s g w h' ∧ (∀ a k, a ≠ 35 → a ≠ 36 → h'.1 a k = h.1 a k) ∧ h'.2 = h.2 := by
  intro d
  induction d with
  | zero =>
    intro j h hj G h13 h45
    have : j = w := by omega
    rw [this] at G ⊢
    refine ⟨h, ?_, G, fun _ _ _ _ => rfl, rfl⟩
    rw [e_X6_learnFrom_43, h13, if_pos ((ii_le (by omega)).mpr (by omega))]
  | succ d ih =>
    intro j h hj G h13 h45
    obtain ⟨h1, a1, a2, a3, a4⟩ := X2_gather_c (l := g j) I G (by omega)
    have G1 : GaC s g (j + 1) h1 := ⟨a2.1, a2.2.1, a2.2.2.1, a2.2.2.2.1, fun i hi => by
      have := a2.2.2.2.2 i hi
      dsimp only at this
      by_cases e : i = j
      · rw [if_pos e] at this; rw [this, e]
      · rw [if_neg e] at this; exact this⟩
    obtain ⟨h2, r1, r2, r3, r4⟩ := ih (j + 1) h1 (by omega) G1 (by rw [a3 _ _ (by decide) (by decide)]; exact h13) (fun i hi => by rw [a3 _ _ (by decide) (by decide)]; exact h45 i hi)
    refine ⟨h2, ?_, r2, fun a k p1 p2 => by rw [r3 a k p1 p2, a3 a k p1 p2], by rw [r4, a4]⟩
    rw [e_X6_learnFrom_43, h13, if_neg (fun e => by have := (ii_le (by omega)).mp e; omega), if_pos (in_ (by omega) (by decide)), cln (by omega), h45 j (by omega), a1]
    refine Eq.trans (e_X6_learnFrom_66 ..) ?_
    rw [ii_s]
    exact r1
section LG
variable {z : Nat} {gs : Nat → Gt} {N : Nat} {od : Nat → Nat} {Sol : Int → Prop} {s : Se}
/-- going back and turning the last decision over -/
theorem learn_80 (z6 : z ≤ 1065) {v1 : Int32} {v4 : Value} {sB : Se} {ch : Nat → List Nat} {h : mx_H} {q back g0 : Nat} {r : Int} (C : ClC sB h) (TC : TrC z sB h) (K : ChR z sB ch [] h) (h9 : h.1 33 9 = iI (eT sB : Int)) (h10 : h.1 33 10 = iI ((q + 1 : Nat) : Int)) (h45 : h.1 45 0 = iI (g0 : Int)) (T : trI z sB) (U : uI sB q) (hq : q < eT sB) (d8 : dcn (eR sB) (eT sB) ≤ 8) (hr : r ≠ -2) {i0 : Nat} (hi0 : i0 < eT sB) (g0e : g0 / 2 = eX sB i0 / 2) (hb : back < dcn (eR sB) (i0 + 1)) (hbk : back = 0 ∨ ∃ i1, i1 < eT sB ∧ dcn (eR sB) (i1 + 1) = back) : ∃ t' h', t' ≤ q ∧ t' ≤ i0 ∧ (∀ i, i < t' → dcn (eR sB) (i + 1) ≤ back) ∧ (∀ i, t' ≤ i → i < eT sB → back < dcn (eR sB) (i + 1)) ∧ dcn (eR sB) t' = back ∧ mx_D (13, mm_X6_learnFrom, 80, [.ref 33, .int v1, .int (iI (r)), .int (iI ((back : Int))), v4], []) h = some (some (.int 1), h') ∧ SeC z (asg (ctT sB t') g0 r) ch h' ∧ (∀ a k, ¬ (41 ≤ a ∧ a ≤ 44) → (a ≠ 33 ∨ (k ≠ 9 ∧ k ≠ 10 ∧ k ≠ 11)) → h'.1 a k = h.1 a k) ∧ h'.2 = h.2 := by
  have Tl := tr_l6 T z6
  have d0 := dcn_mono (R := eR sB) (show i0 + 1 ≤ eT sB by omega)
  obtain ⟨t', h1, b1, b2, b3, b4, b5, b6, b7, b8, b9, b10⟩ := goBack_0 z6 (to' := back) (by omega) (q := q + 1) (eT sB) sB h rfl T TC h9 h10 (by omega) d8
  obtain ⟨tq, ti⟩ := learn_cut U hq b3 hi0 hb
  have dt : dcn (eR sB) t' = back := by
    have le : dcn (eR sB) t' ≤ back := by
      by_cases e : t' = 0
      · rw [e]; exact Nat.zero_le _
      · have := b3 (t' - 1) (by omega)
        rw [show t' - 1 + 1 = t' by omega] at this
        exact this
    rcases hbk with e | ⟨i1, e1, e2⟩
    · omega
    · have : i1 < t' := by
        by_cases y : i1 < t'
        · exact y
        · have := b4 i1 (by omega) e1
          omega
      have := dcn_mono (R := eR sB) (show i1 + 1 ≤ t' by omega)
      omega
  have lb := T.1 i0 hi0
  rw [if_pos (show t' < q + 1 by omega)] at b7
  obtain ⟨h2, a1, a2, a3, a4⟩ := X6_assign_c (s := ctT sB t') (l := g0) (r := r) (Lv := back) (h := h1) b5 b6 b8 (by omega) (fun i hi => by
    have hi : i < t' := hi
    rw [g0e]
    exact T.2 i i0 (by omega) hi0) (show t' < 1065 by omega) (by show back = dcn (eR sB) t' + _; rw [if_neg hr, dt]; rfl)
  refine ⟨t', h2, tq, ti, b3, b4, dt, ?_, ⟨ClC_k (s := sB) C (fun a k p1 p2 => by rw [a4.1 a k (by omega) (by omega), b9 a k (by omega) (by omega)]), a2, ⟨a3, ?_, ?_⟩, ChR_k K (fun a k p => by rw [a4.1 a k (by omega) (by omega), b9 a k (by omega) (by omega)]) rfl (fun _ => rfl)⟩, fun a k p1 p2 => by rw [a4.1 a k (by omega) (by omega), b9 a k (by omega) p2], by rw [a4.2, b10]⟩
  · rw [e_X6_learnFrom_80, c_X6_goBack, b1]
    refine Eq.trans (e_X6_learnFrom_85 ..) ?_
    have z0 : ((0 : Int32).toNatClampNeg) = 0 := rfl
    rw [if_pos (by decide), z0, b9 45 0 (by decide) (by decide), h45, a1]
    exact e_X6_learnFrom_96 ..
  · show h2.1 33 10 = iI (t' : Int)
    rw [a4.1 _ _ (by decide) (by decide)]; exact b7
  · show h2.1 33 11 = iI (dcn (eR (asg (ctT sB t') g0 r)) (t' + 1) : Int)
    have e : dcn (eR (asg (ctT sB t') g0 r)) (t' + 1) = dcn (eR sB) t' + (if r = -2 then 1 else 0) := asg_dn (s := ctT sB t')
    rw [e, if_neg hr, dt, a4.1 _ _ (by decide) (by decide)]
    exact b8
end LG
