/-! the search: propagate -/
def stQ (s : Se) (q : Nat) : Se := (eM s, eF s, eP s, eT s, eX s, eR s, q)
def SY (s s' : Se) : Prop := eM s' = eM s ∧ eF s' = eF s ∧ eT s ≤ eT s' ∧ (∀ i, i < eT s → eX s' i = eX s i ∧ eR s' i = eR s i) ∧ ∀ c, c < eM s → ∀ l, inC s' c l ↔ inC s c l
theorem SY_r (s : Se) : SY s s := ⟨rfl, rfl, Nat.le_refl _, fun _ _ => ⟨rfl, rfl⟩, fun _ _ _ => Iff.rfl⟩
theorem SY_t {a b c : Se} (x : SY a b) (y : SY b c) : SY a c := by
  obtain ⟨x1, x2, x3, x4, x6⟩ := x
  obtain ⟨y1, y2, y3, y4, y6⟩ := y
  exact ⟨by rw [y1, x1], by rw [y2, x2], by omega, fun i hi => by rw [(y4 i (by omega)).1, (y4 i (by omega)).2]; exact x4 i hi, fun c hc l => by rw [y6 c (by rw [x1]; exact hc) l, x6 c hc l]⟩
theorem SY_x {a b : Se} (x : SX a b) : SY a b := ⟨x.1, x.2.1, x.2.2.1, x.2.2.2.1, x.2.2.2.2.2⟩
def PF (h h' : mx_H) : Prop := (∀ a k, a ≠ 35 → a ≠ 37 → a ≠ 38 → ¬ (41 ≤ a ∧ a ≤ 44) → (a ≠ 33 ∨ (k ≠ 9 ∧ k ≠ 10)) → h'.1 a k = h.1 a k) ∧ h'.2 = h.2
theorem PF_r (h : mx_H) : PF h h := ⟨fun _ _ _ _ _ _ _ => rfl, rfl⟩
theorem PF_t {a b c : mx_H} (x : PF a b) (y : PF b c) : PF a c := ⟨fun i k p1 p2 p3 p4 p5 => by rw [y.1 i k p1 p2 p3 p4 p5, x.1 i k p1 p2 p3 p4 p5], by rw [y.2, x.2]⟩
/-- cells and what holds, at rest -/
def SeC (z : Nat) (s : Se) (ch : Nat → List Nat) (h : mx_H) : Prop := ClC s h ∧ TrC z s h ∧ LeC s h ∧ ChR z s ch [] h
def IvI (z : Nat) (gs : Nat → Gt) (N : Nat) (od : Nat → Nat) (Sol : Int → Prop) (s : Se) (q : Nat) : Prop := clI z s ∧ trI z s ∧ sdI gs Sol s ∧ rsI gs N od Sol s ∧ waI s q ∧ uI s q
theorem tr_l6 {z : Nat} {s : Se} (I : trI z s) (z6 : z ≤ 1065) : eT s < 1065 := by
  rcases tr_lt I with y | y
  · omega
  · by_cases e : eT s = 0
    · omega
    · have := I.1 0 (by omega)
      omega
section PR
variable {z : Nat} {gs : Nat → Gt} {N : Nat} {od : Nat → Nat} {Sol : Int → Prop}
theorem X6_visit_c {s : Se} {ch : Nat → List Nat} {h : mx_H} {q : Nat} (z6 : z ≤ 1065) (C : SeC z s ch h) (I : IvI z gs N od Sol s q) (hq : q < eT s) : ∃ s' ch' b' h', mx_C mm_X6_visit [.ref 33, .int (iI ((ng (eX s q) : Int)))] h = some (some (.int (bv b')), h') ∧ VJ z gs N od Sol (ng (eX s q)) q s s' ch' [] b' h h' := by
  obtain ⟨C1, C2, C3, C4⟩ := C
  obtain ⟨I1, I2, I3, I4, I5, I6⟩ := I
  have lb := I2.1 q hq
  have lb2 : ng (eX s q) < 2 * z := by have := ng_2 (eX s q); omega
  have m5 := I1.2.2.2.2.1
  obtain ⟨k1, k2, k3⟩ := C4 _ lb2
  obtain ⟨h1, hh⟩ : ∃ h1 : mx_H, h1 = (mx_u h.1 37 (ng (eX s q)) (-1), h.2.1, h.2.2) := ⟨_, rfl⟩
  have o1 : ∀ a k, a ≠ 37 → h1.1 a k = h.1 a k := fun a k ha => by rw [hh]; dsimp only; rw [mu_c _ _ _ _ ha]
  have J : VJ z gs N od Sol (ng (eX s q)) q s s (fun l => if l = ng (eX s q) then [] else ch l) (ch (ng (eX s q))) none h h1 := by
    refine ⟨⟨ClC_k C1 (fun a k p1 p2 => o1 a k (by omega)), TrC_k C2 (fun a k p1 p2 => o1 a k (by omega)), ?_, fun l hl => ?_⟩, ⟨I1, I2, I3, I4, I5, I6⟩, SX_r s, ⟨k2, fun k hk => ?_⟩, ⟨hq, (ng_ng _).symm⟩, fun _ k hk e ne => ?_, fun c e => (by cases e), ⟨fun a k p1 p2 p3 p4 p5 => o1 a k p2, by rw [hh]⟩⟩
    · unfold LeC
      rw [o1 _ _ (by decide), o1 _ _ (by decide), o1 _ _ (by decide)]
      exact C3
    · dsimp only
      by_cases e : l = ng (eX s q)
      · rw [if_pos e]
        refine ⟨?_, List.nodup_nil, fun k => ?_⟩
        · show h1.1 37 l = -1
          rw [hh, e]; dsimp only; rw [mu_s]
        · constructor
          · intro y; cases y
          · rintro ⟨y1, y2, y3⟩
            exact absurd ((k3 k).mpr ⟨y1, by rw [y2, e], by simp⟩) y3
      · rw [if_neg e]
        obtain ⟨c1, c2, c3⟩ := C4 l hl
        refine ⟨?_, c2, fun k => ?_⟩
        · have : h1.1 37 l = h.1 37 l := by rw [hh]; dsimp only; rw [mu_k _ _ e]
          rw [this]
          exact Ch_e _ _ (fun j _ => o1 38 j (by decide)) c1
        · rw [c3 k]
          constructor
          · rintro ⟨y1, y2, _⟩
            exact ⟨y1, y2, fun m => e (by rw [← y2]; exact ((k3 k).mp m).2.1)⟩
          · rintro ⟨y1, y2, _⟩
            exact ⟨y1, y2, by simp⟩
    · have := (k3 k).mp hk
      exact ⟨this.1, this.2.1⟩
    · exact absurd ((k3 k).mpr ⟨hk, e, by simp⟩) ne
  have ln := nd_len (2 * eM s) _ k2 (fun k hk => ((k3 k).mp hk).1)
  obtain ⟨s', ch', b', h', r1, r2⟩ := visit_25 z6 (ch (ng (eX s q))) s _ none h1 0 (h.1 37 (ng (eX s q))) mx_junk mx_junk mx_junk mx_junk J (by omega) (Ch_e _ _ (fun j _ => o1 38 j (by decide)) k1)
  refine ⟨s', ch', b', h', ?_, r2⟩
  rw [c_X6_visit, e_X6_visit_0, if_pos (in_ (by omega) (by decide)), if_pos (in_ (by omega) (by decide)), cln (by omega), ← hh]
  exact r1
theorem propagate_0 (z6 : z ≤ 1065) : ∀ (d : Nat) (s : Se) (ch : Nat → List Nat) (h : mx_H) (v1 : Value), eQ s + d = 1065 → SeC z s ch h → IvI z gs N od Sol s (eQ s) → ∃ s' ch' h' b, mx_D (4, mm_X6_propagate, 0, [.ref 33, v1], []) h = some (some (.int (bv b)), h') ∧ SeC z s' ch' h' ∧ SY s s' ∧ PF h h' ∧ (b = none → IvI z gs N od Sol s' (eQ s') ∧ eQ s' = eT s') ∧ (∀ c, b = some c → ∃ q, q < eT s' ∧ eQ s' = q + 1 ∧ IvI z gs N od Sol s' q ∧ c < eM s' ∧ ∀ l, inC s' c l → ∃ i, i < eT s' ∧ eX s' i = ng l) := by
  intro d
  induction d with
  | zero =>
    intro s ch h v1 hd C I
    have := tr_l6 I.2.1 z6
    have := I.2.2.2.2.2.1
    omega
  | succ d ih =>
    intro s ch h v1 hd C I
    have U := I.2.2.2.2.2
    have Tlt : eT s < 1065 := tr_l6 I.2.1 z6
    obtain ⟨C1, C2, C3, C4⟩ := id C
    by_cases y : eQ s = eT s
    · refine ⟨s, ch, h, none, ?_, C, SY_r s, PF_r h, fun _ => ⟨I, y⟩, fun c e => (by cases e)⟩
      rw [e_X6_propagate_0, C3.1, C3.2.1, if_pos ((ii_le (by omega)).mpr (by omega)), e_X6_propagate_57]
      rfl
    · have hq : eQ s < eT s := by have := U.1; omega
      have lb := I.2.1.1 _ hq
      obtain ⟨s', ch', b', h', r1, r2⟩ := X6_visit_c z6 C I hq
      obtain ⟨⟨J1, J2, J3, J4⟩, ⟨K1, K2, K3, K4, K5, K6⟩, JX, JN, ⟨Q1, Q2⟩, P1, P2, JF⟩ := r2
      obtain ⟨h1, hh⟩ : ∃ h1 : mx_H, h1 = (mx_u h'.1 33 10 (h'.1 33 10 + 1), h'.2.1, h'.2.2) := ⟨_, rfl⟩
      have o1 : ∀ a k, a ≠ 33 ∨ k ≠ 10 → h1.1 a k = h'.1 a k := fun a k ha => by
        rw [hh]; dsimp only [mx_u]; rw [if_neg (by omega)]
      have eq : eQ s' = eQ s := JX.2.2.2.2.1
      have C' : SeC z (stQ s' (eQ s + 1)) ch' h1 := by
        refine ⟨ClC_k (s := s') J1 (fun a k p1 p2 => o1 a k (by omega)), TrC_k (s := s') J2 (fun a k p1 p2 => o1 a k (by omega)), ⟨?_, ?_, ?_⟩, ChR_k J4 (fun a k p => o1 a k (by omega)) rfl (fun _ => rfl)⟩
        · rw [o1 _ _ (by decide)]; exact J3.1
        · show h1.1 33 10 = iI ((eQ s + 1 : Nat) : Int)
          rw [hh]; dsimp only; rw [mu_s, J3.2.1, eq, ii_s]
        · rw [o1 _ _ (by decide)]; exact J3.2.2
      have F' : PF h h1 := ⟨fun a k p1 p2 p3 p4 p5 => by rw [o1 a k (by omega)]; exact JF.1 a k p1 p2 p3 p4 (by omega), by rw [hh]; exact JF.2⟩
      have e0 : mx_D (4, mm_X6_propagate, 0, [.ref 33, v1], []) h = (mx_C mm_X6_visit [.ref 33, .int (iI ((ng (eX s (eQ s)) : Int)))] h).bind (fun o => mx_D (4, mm_X6_propagate, 36, [.ref 33, v1], o.1.toList ++ []) o.2) := by
        rw [e_X6_propagate_0, C3.1, C3.2.1, if_neg (fun e => by have := (ii_le (by omega)).mp e; omega), if_neg (show ¬ (1065 : Int32) ≤ iI (eQ s : Int) from fun e => by have := (ii_le (a := 1065) (by omega)).mp e; omega), if_pos (in_ (by omega) (by decide)), cln (by omega), C2.1 _ hq, ii_ng (by omega)]
      rw [e0, r1]
      cases b' with
      | none =>
        have I' : IvI z gs N od Sol (stQ s' (eQ s + 1)) (eQ s + 1) := ⟨K1, K2, K3, K4, waI_next K2 Q1 K5 (by rw [Q2, ng_ng]; exact P1 rfl), ⟨Q1, fun i p1 p2 => K6.2 i (by omega) p2⟩⟩
        obtain ⟨s2, ch2, h2, b2, z1, z2, z3, z4, z5, z6'⟩ := ih (stQ s' (eQ s + 1)) ch' h1 (.int (bv none)) (by show eQ s + 1 + d = 1065; omega) C' I'
        refine ⟨s2, ch2, h2, b2, ?_, z2, SY_t (SY_x JX) z3, PF_t F' z4, z5, z6'⟩
        refine Eq.trans (e_X6_propagate_36 ..) ?_
        rw [if_pos (show bv none = -1 from rfl), ← hh]
        exact z1
      | some c =>
        obtain ⟨c1, c2⟩ := P2 c rfl
        have m5 := K1.2.2.2.2.1
        refine ⟨stQ s' (eQ s + 1), ch', h1, some c, ?_, C', (show SY s s' from SY_x JX), F', fun e => (by cases e), fun c' e => ?_⟩
        · refine Eq.trans (e_X6_propagate_36 ..) ?_
          rw [if_neg (show ¬ bv (some c) = -1 from fun e => by
            have e : iI (c : Int) = -1 := e
            rw [show (-1 : Int32) = iI (-1) by decide] at e
            have := (ii_eq (by omega) (by decide)).mp e
            omega), ← hh]
        · have e : c = c' := by injection e
          rw [← e]
          exact ⟨eQ s, Q1, rfl, ⟨K1, K2, K3, K4, K5, K6⟩, c1, c2⟩
theorem X6_propagate_c (z6 : z ≤ 1065) {s : Se} {ch : Nat → List Nat} {h : mx_H} (C : SeC z s ch h) (I : IvI z gs N od Sol s (eQ s)) : ∃ s' ch' h' b, mx_C mm_X6_propagate [.ref 33] h = some (some (.int (bv b)), h') ∧ SeC z s' ch' h' ∧ SY s s' ∧ PF h h' ∧ (b = none → IvI z gs N od Sol s' (eQ s') ∧ eQ s' = eT s') ∧ (∀ c, b = some c → ∃ q, q < eT s' ∧ eQ s' = q + 1 ∧ IvI z gs N od Sol s' q ∧ c < eM s' ∧ ∀ l, inC s' c l → ∃ i, i < eT s' ∧ eX s' i = ng l) := by
  have := tr_l6 I.2.1 z6
  have := I.2.2.2.2.2.1
  rw [c_X6_propagate]
  exact propagate_0 z6 (1065 - eQ s) s ch h _ (by omega) C I
end PR
