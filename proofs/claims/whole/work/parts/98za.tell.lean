/-! the search: clauses told -/
def TE (z : Nat) (s s' : Se) (Ls : List (List Nat)) : Prop := clI z s' ∧ eM s' = eM s + Ls.length ∧ eF s' (eM s') ≤ eF s (eM s) + 3 * Ls.length ∧ (∀ c, c < eM s → ∀ l, inC s' c l ↔ inC s c l) ∧ (∀ L, L ∈ Ls → ∃ c, c < eM s' ∧ ∀ l, inC s' c l ↔ l ∈ L) ∧ (∀ c, eM s ≤ c → c < eM s' → ∃ L, L ∈ Ls ∧ ∀ l, inC s' c l ↔ l ∈ L) ∧ (eT s' = eT s ∧ eX s' = eX s ∧ eR s' = eR s ∧ eQ s' = eQ s)
theorem TE_t {z : Nat} {a b c : Se} {A B : List (List Nat)} (x : TE z a b A) (y : TE z b c B) : TE z a c (A ++ B) := by
  obtain ⟨x1, x2, x3, x4, x5, x6, x7, x8, x9, x10⟩ := x
  obtain ⟨y1, y2, y3, y4, y5, y6, y7, y8, y9, y10⟩ := y
  refine ⟨y1, by rw [y2, x2, List.length_append]; omega, by rw [List.length_append]; omega, fun d hd l => by rw [y4 d (by omega) l, x4 d hd l], fun L hL => ?_, fun d d1 d2 => ?_, by rw [y7, x7], by rw [y8, x8], by rw [y9, x9], by rw [y10, x10]⟩
  · rcases List.mem_append.mp hL with q | q
    · obtain ⟨d, d1, d2⟩ := x5 L q
      exact ⟨d, by omega, fun l => by rw [y4 d d1 l, d2 l]⟩
    · exact y5 L q
  · by_cases e : d < eM b
    · obtain ⟨L, l1, l2⟩ := x6 d d1 e
      exact ⟨L, List.mem_append.mpr (Or.inl l1), fun l => by rw [y4 d e l, l2 l]⟩
    · obtain ⟨L, l1, l2⟩ := y6 d (by omega) d2
      exact ⟨L, List.mem_append.mpr (Or.inr l1), l2⟩
theorem CwF_t {a b c : mx_H} (x : CwF a b) (y : CwF b c) : CwF a c := ⟨fun i k p => by rw [y.1 i k p, x.1 i k p], by rw [y.2, x.2]⟩
section TL
variable {z : Nat} {gs : Nat → Gt} {s : Se} {h : mx_H} {ch : Nat → List Nat}
theorem TE_fin {g : Nat → Nat} {w : Nat} {L : List Nat} (I : clI z s) (F : clI z (fin s g w)) (w3 : w ≤ 3) (e : ∀ l, (∃ j, j < w ∧ g j = l) ↔ l ∈ L) : TE z s (fin s g w) [L] := by
  have F1 : eF (fin s g w) (eM s + 1) = eF s (eM s) + w := if_pos rfl
  refine ⟨F, rfl, ?_, fun c hc l => inC_fin I hc, fun L' hL => ?_, fun c c1 c2 => ?_, rfl, rfl, rfl, rfl⟩
  · show eF (fin s g w) (eM s + 1) ≤ eF s (eM s) + 3 * 1
    omega
  · rw [List.mem_singleton.mp hL]
    exact ⟨eM s, by show eM s < eM s + 1; omega, fun l => by rw [inC_new]; exact e l⟩
  · have c2 : c < eM s + 1 := c2
    refine ⟨L, List.mem_singleton.mpr rfl, fun l => ?_⟩
    rw [show c = eM s by omega, inC_new]
    exact e l
theorem X2_add_2 (z6 : z ≤ 1065) {a b : Nat} (I : clI z s) (C : ClC s h) (K : ChR z s ch [] h) (hm : eM s < 4515) (h8 : eF s (eM s) + 3 ≤ 14828) (ha : 1 ≤ a / 2 ∧ a / 2 < z) (hb : 1 ≤ b / 2 ∧ b / 2 < z) (ab : a / 2 ≠ b / 2) : ∃ s' ch' h', mx_C mm_X2_add [.ref 34, .int (iI ((a : Int))), .int (iI ((b : Int))), .int (-1)] h = some (none, h') ∧ ClC s' h' ∧ ChR z s' ch' [] h' ∧ CwF h h' ∧ TE z s s' [[a, b]] := by
  obtain ⟨h1, a1, a2, a3, a4⟩ := X2_gather_c (l := a) I (GaC_0 (g := fun _ => 0) C) (by omega)
  obtain ⟨h2, b1, b2, b3, b4⟩ := X2_gather_c (l := b) I a2 (by omega)
  have K2 : ChR z s ch [] h2 := ChR_k K (fun x k p => by rw [b3 x k (by omega) (by omega), a3 x k (by omega) (by omega)]) rfl (fun _ => rfl)
  obtain ⟨g, hg⟩ : ∃ g : Nat → Nat, g = (fun j => if j = 0 + 1 then b else if j = 0 then a else 0) := ⟨_, rfl⟩
  have g0 : g 0 = a := by rw [hg]; rfl
  have g1 : g 1 = b := by rw [hg]; rfl
  have b2 : GaC s g 2 h2 := by rw [hg]; exact b2
  have gb : ∀ j, j < 2 → 1 ≤ g j / 2 ∧ g j / 2 < z := fun j hj => by
    have : j = 0 ∨ j = 1 := by omega
    rcases this with e | e <;> rw [e]
    · rw [g0]; exact ha
    · rw [g1]; exact hb
  have gd : ∀ i j, i < 2 → j < 2 → g i / 2 = g j / 2 → i = j := fun i j hi hj e => by
    have c1 : i = 0 ∨ i = 1 := by omega
    have c2 : j = 0 ∨ j = 1 := by omega
    rcases c1 with r | r <;> rcases c2 with t | t <;> rw [r, t] at e ⊢ <;> simp only [g0, g1] at e <;> omega
  obtain ⟨h3, ch', f1, f2, f3, f4⟩ := X2_finish_c I z6 b2 (by omega) gb gd hm (by omega) K2
  refine ⟨fin s g 2, ch', h3, ?_, f2, f3, ⟨fun x k p => by rw [f4.1 x k p, b3 x k (by omega) (by omega), a3 x k (by omega) (by omega)], by rw [f4.2, b4, a4]⟩, TE_fin I (clI_fin I (by omega) gb gd hm (by omega)) (by omega) (fun l => ?_)⟩
  · rw [c_X2_add, e_X2_add_0, a1]
    refine Eq.trans (e_X2_add_5 ..) ?_
    rw [b1]
    refine Eq.trans (e_X2_add_10 ..) ?_
    rw [if_pos rfl]
    refine Eq.trans (e_X2_add_20 ..) ?_
    rw [f1]
    exact e_X2_add_24 ..
  · simp only [List.mem_cons, List.not_mem_nil, or_false]
    constructor
    · rintro ⟨j, j1, j2⟩
      have : j = 0 ∨ j = 1 := by omega
      rcases this with e | e <;> rw [e] at j2
      · rw [g0] at j2; exact Or.inl j2.symm
      · rw [g1] at j2; exact Or.inr j2.symm
    · rintro (e | e)
      · exact ⟨0, by omega, by rw [g0, e]⟩
      · exact ⟨1, by omega, by rw [g1, e]⟩
theorem X2_add_3 (z6 : z ≤ 1065) {a b c : Nat} (I : clI z s) (C : ClC s h) (K : ChR z s ch [] h) (hm : eM s < 4515) (h8 : eF s (eM s) + 3 ≤ 14828) (ha : 1 ≤ a / 2 ∧ a / 2 < z) (hb : 1 ≤ b / 2 ∧ b / 2 < z) (hc : 1 ≤ c / 2 ∧ c / 2 < z) (ab : a / 2 ≠ b / 2) (ac : a / 2 ≠ c / 2) (bc : b / 2 ≠ c / 2) : ∃ s' ch' h', mx_C mm_X2_add [.ref 34, .int (iI ((a : Int))), .int (iI ((b : Int))), .int (iI ((c : Int)))] h = some (none, h') ∧ ClC s' h' ∧ ChR z s' ch' [] h' ∧ CwF h h' ∧ TE z s s' [[a, b, c]] := by
  obtain ⟨h1, a1, a2, a3, a4⟩ := X2_gather_c (l := a) I (GaC_0 (g := fun _ => 0) C) (by omega)
  obtain ⟨h2, b1, b2, b3, b4⟩ := X2_gather_c (l := b) I a2 (by omega)
  obtain ⟨h4, c1, c2, c3, c4⟩ := X2_gather_c (l := c) I b2 (by omega)
  have K2 : ChR z s ch [] h4 := ChR_k K (fun x k p => by rw [c3 x k (by omega) (by omega), b3 x k (by omega) (by omega), a3 x k (by omega) (by omega)]) rfl (fun _ => rfl)
  obtain ⟨g, hg⟩ : ∃ g : Nat → Nat, g = (fun j => if j = 0 + 1 + 1 then c else if j = 0 + 1 then b else if j = 0 then a else 0) := ⟨_, rfl⟩
  have g0 : g 0 = a := by rw [hg]; rfl
  have g1 : g 1 = b := by rw [hg]; rfl
  have g2 : g 2 = c := by rw [hg]; rfl
  have c2 : GaC s g 3 h4 := by rw [hg]; exact c2
  have gb : ∀ j, j < 3 → 1 ≤ g j / 2 ∧ g j / 2 < z := fun j hj => by
    have : j = 0 ∨ j = 1 ∨ j = 2 := by omega
    rcases this with e | e | e <;> rw [e]
    · rw [g0]; exact ha
    · rw [g1]; exact hb
    · rw [g2]; exact hc
  have gd : ∀ i j, i < 3 → j < 3 → g i / 2 = g j / 2 → i = j := fun i j hi hj e => by
    have c1 : i = 0 ∨ i = 1 ∨ i = 2 := by omega
    have c2 : j = 0 ∨ j = 1 ∨ j = 2 := by omega
    rcases c1 with r | r | r <;> rcases c2 with t | t | t <;> rw [r, t] at e ⊢ <;> simp only [g0, g1, g2] at e <;> omega
  obtain ⟨h3, ch', f1, f2, f3, f4⟩ := X2_finish_c I z6 c2 (by omega) gb gd hm (by omega) K2
  refine ⟨fin s g 3, ch', h3, ?_, f2, f3, ⟨fun x k p => by rw [f4.1 x k p, c3 x k (by omega) (by omega), b3 x k (by omega) (by omega), a3 x k (by omega) (by omega)], by rw [f4.2, c4, b4, a4]⟩, TE_fin I (clI_fin I (by omega) gb gd hm (by omega)) (by omega) (fun l => ?_)⟩
  · rw [c_X2_add, e_X2_add_0, a1]
    refine Eq.trans (e_X2_add_5 ..) ?_
    rw [b1]
    refine Eq.trans (e_X2_add_10 ..) ?_
    rw [if_neg (fun y => by rw [show (-1 : Int32) = iI (-1) by decide] at y; have := (ii_eq (a := (c : Int)) (b := -1) (by omega) (by omega)).mp y; omega), c1]
    refine Eq.trans (e_X2_add_20 ..) ?_
    rw [f1]
    exact e_X2_add_24 ..
  · simp only [List.mem_cons, List.not_mem_nil, or_false]
    constructor
    · rintro ⟨j, j1, j2⟩
      have : j = 0 ∨ j = 1 ∨ j = 2 := by omega
      rcases this with e | e | e <;> rw [e] at j2
      · rw [g0] at j2; exact Or.inl j2.symm
      · rw [g1] at j2; exact Or.inr (Or.inl j2.symm)
      · rw [g2] at j2; exact Or.inr (Or.inr j2.symm)
    · rintro (e | e | e)
      · exact ⟨0, by omega, by rw [g0, e]⟩
      · exact ⟨1, by omega, by rw [g1, e]⟩
      · exact ⟨2, by omega, by rw [g2, e]⟩
theorem X2_tell_c (z6 : z ≤ 1065) (W : GW z gs) {u : Nat} (hu : 9 ≤ u ∧ u < z) (I : clI z s) (C : ClC s h) (K : ChR z s ch [] h) (hm : eM s + 4 ≤ 4515) (h8 : eF s (eM s) + 12 ≤ 14828) : ∃ s' ch' h', mx_C mm_X2_tell [.ref 34, .int (iI ((gK (gs u) : Int))), .int (iI (((2 * u : Nat) : Int))), .int (iI ((gC (gs u) : Int))), .int (iI ((gL (gs u) : Int))), .int (iI ((gR (gs u) : Int)))] h = some (none, h') ∧ ClC s' h' ∧ ChR z s' ch' [] h' ∧ CwF h h' ∧ TE z s s' (tcl (gs u) u) := by
  obtain ⟨w1, w2, w3, w4, w5⟩ := W u hu.1 hu.2
  have uu : 2 * u / 2 = u := by omega
  have nu := ng_2 (2 * u)
  have na := ng_2 (gL (gs u))
  have nb := ng_2 (gR (gs u))
  have nc := ng_2 (gC (gs u))
  have xu : iI ((2 * u : Nat) : Int) ^^^ 1 = iI (ng (2 * u) : Int) := ii_ng (by omega)
  have xa : iI (gL (gs u) : Int) ^^^ 1 = iI (ng (gL (gs u)) : Int) := ii_ng (by omega)
  have xb : iI (gR (gs u) : Int) ^^^ 1 = iI (ng (gR (gs u)) : Int) := ii_ng (by omega)
  rw [c_X2_tell, e_X2_tell_0]
  unfold tcl
  have k3 : gK (gs u) = 0 ∨ gK (gs u) = 1 ∨ gK (gs u) = 2 := by omega
  rcases k3 with k | k | k
  · rw [if_pos k, k]
    have w4 := (w4 (by omega)).2
    obtain ⟨s1, ch1, h1, a1, a2, a3, a4, a5⟩ := X2_add_2 z6 (a := ng (2 * u)) (b := gL (gs u)) I C K (by omega) (by omega) (by omega) (by omega) (by omega)
    have ⟨A1, A2, A3, _⟩ := a5
    simp only [List.length_cons, List.length_nil] at A2 A3
    obtain ⟨s2, ch2, h2, b1, b2, b3, b4, b5⟩ := X2_add_2 z6 (a := ng (2 * u)) (b := gR (gs u)) A1 a2 a3 (by omega) (by omega) (by omega) (by omega) (by omega)
    have ⟨B1, B2, B3, _⟩ := b5
    simp only [List.length_cons, List.length_nil] at B2 B3
    obtain ⟨s3, ch3, h3, c1, c2, c3, c4, c5⟩ := X2_add_3 z6 (a := 2 * u) (b := ng (gL (gs u))) (c := ng (gR (gs u))) B1 b2 b3 (by omega) (by omega) (by omega) (by omega) (by omega) (by omega) (by omega) (by omega)
    refine ⟨s3, ch3, h3, ?_, c2, c3, CwF_t (CwF_t a4 b4) c4, TE_t (TE_t a5 b5) c5⟩
    refine Eq.trans (e_X2_tell_1_0 ..) ?_
    refine Eq.trans (e_X2_tell_28 ..) ?_
    rw [xu, a1]
    refine Eq.trans (e_X2_tell_38 ..) ?_
    rw [xu, b1]
    refine Eq.trans (e_X2_tell_48 ..) ?_
    rw [xa, xb, c1]
    refine Eq.trans (e_X2_tell_61 ..) ?_
    exact e_X2_tell_159 ..
  · rw [if_neg (by omega), if_pos k, k]
    have w4 := (w4 (by omega)).2
    obtain ⟨s1, ch1, h1, a1, a2, a3, a4, a5⟩ := X2_add_3 z6 (a := ng (2 * u)) (b := gL (gs u)) (c := gR (gs u)) I C K (by omega) (by omega) (by omega) (by omega) (by omega) (by omega) (by omega) (by omega)
    have ⟨A1, A2, A3, _⟩ := a5
    simp only [List.length_cons, List.length_nil] at A2 A3
    obtain ⟨s2, ch2, h2, b1, b2, b3, b4, b5⟩ := X2_add_3 z6 (a := ng (2 * u)) (b := ng (gL (gs u))) (c := ng (gR (gs u))) A1 a2 a3 (by omega) (by omega) (by omega) (by omega) (by omega) (by omega) (by omega) (by omega)
    have ⟨B1, B2, B3, _⟩ := b5
    simp only [List.length_cons, List.length_nil] at B2 B3
    obtain ⟨s3, ch3, h3, c1, c2, c3, c4, c5⟩ := X2_add_3 z6 (a := 2 * u) (b := ng (gL (gs u))) (c := gR (gs u)) B1 b2 b3 (by omega) (by omega) (by omega) (by omega) (by omega) (by omega) (by omega) (by omega)
    have ⟨C1, C2, C3, _⟩ := c5
    simp only [List.length_cons, List.length_nil] at C2 C3
    obtain ⟨s4, ch4, h4, d1, d2, d3, d4, d5⟩ := X2_add_3 z6 (a := 2 * u) (b := gL (gs u)) (c := ng (gR (gs u))) C1 c2 c3 (by omega) (by omega) (by omega) (by omega) (by omega) (by omega) (by omega) (by omega)
    refine ⟨s4, ch4, h4, ?_, d2, d3, CwF_t (CwF_t (CwF_t a4 b4) c4) d4, TE_t (TE_t (TE_t a5 b5) c5) d5⟩
    refine Eq.trans (e_X2_tell_1_1 ..) ?_
    refine Eq.trans (e_X2_tell_64 ..) ?_
    rw [xu, a1]
    refine Eq.trans (e_X2_tell_75 ..) ?_
    rw [xu, xa, xb, b1]
    refine Eq.trans (e_X2_tell_90 ..) ?_
    rw [xa, c1]
    refine Eq.trans (e_X2_tell_101 ..) ?_
    rw [xb, d1]
    refine Eq.trans (e_X2_tell_112 ..) ?_
    exact e_X2_tell_159 ..
  · rw [if_neg (by omega), if_neg (by omega), k]
    obtain ⟨w5, w6, w7⟩ := w5 k
    have xc : iI (gC (gs u) : Int) ^^^ 1 = iI (ng (gC (gs u)) : Int) := ii_ng (by omega)
    obtain ⟨s1, ch1, h1, a1, a2, a3, a4, a5⟩ := X2_add_3 z6 (a := ng (2 * u)) (b := ng (gC (gs u))) (c := gL (gs u)) I C K (by omega) (by omega) (by omega) (by omega) (by omega) (by omega) (by omega) (by omega)
    have ⟨A1, A2, A3, _⟩ := a5
    simp only [List.length_cons, List.length_nil] at A2 A3
    obtain ⟨s2, ch2, h2, b1, b2, b3, b4, b5⟩ := X2_add_3 z6 (a := 2 * u) (b := ng (gC (gs u))) (c := ng (gL (gs u))) A1 a2 a3 (by omega) (by omega) (by omega) (by omega) (by omega) (by omega) (by omega) (by omega)
    have ⟨B1, B2, B3, _⟩ := b5
    simp only [List.length_cons, List.length_nil] at B2 B3
    obtain ⟨s3, ch3, h3, c1, c2, c3, c4, c5⟩ := X2_add_3 z6 (a := ng (2 * u)) (b := gC (gs u)) (c := gR (gs u)) B1 b2 b3 (by omega) (by omega) (by omega) (by omega) (by omega) (by omega) (by omega) (by omega)
    have ⟨C1, C2, C3, _⟩ := c5
    simp only [List.length_cons, List.length_nil] at C2 C3
    obtain ⟨s4, ch4, h4, d1, d2, d3, d4, d5⟩ := X2_add_3 z6 (a := 2 * u) (b := gC (gs u)) (c := ng (gR (gs u))) C1 c2 c3 (by omega) (by omega) (by omega) (by omega) (by omega) (by omega) (by omega) (by omega)
    refine ⟨s4, ch4, h4, ?_, d2, d3, CwF_t (CwF_t (CwF_t a4 b4) c4) d4, TE_t (TE_t (TE_t a5 b5) c5) d5⟩
    refine Eq.trans (q_lsw 115 dX2_tell_1 (by decide) rfl rfl) ?_
    refine Eq.trans (e_X2_tell_115 ..) ?_
    rw [xu, xc, a1]
    refine Eq.trans (e_X2_tell_127 ..) ?_
    rw [xc, xa, b1]
    refine Eq.trans (e_X2_tell_139 ..) ?_
    rw [xu, c1]
    refine Eq.trans (e_X2_tell_149 ..) ?_
    rw [xb, d1]
    exact e_X2_tell_159 ..
end TL
