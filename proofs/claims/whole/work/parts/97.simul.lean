/-! the class's trying of gates -/
def SiF (h h' : mx_H) : Prop := (∀ a k, a ≠ 27 → h'.1 a k = h.1 a k) ∧ h'.2 = h.2
section SI
variable {z : Nat} {gs : Nat → Gt} {h : mx_H}
theorem GtC_si {h' : mx_H} (G : GtC z gs h.1) (F : SiF h h') : GtC z gs h'.1 := by
  obtain ⟨G1, G2, G3, G4⟩ := G
  refine ⟨by rw [F.1 _ _ (by decide)]; exact G1, G2, G3, fun g h1 h2 => ?_⟩
  rw [F.1 _ _ (by decide), F.1 _ _ (by decide), F.1 _ _ (by decide), F.1 _ _ (by decide)]
  exact G4 g h1 h2
theorem bI_x {b : Bool} {l : Nat} : bI b ^^^ iI ((l : Int) % 2) = bI (b.xor (decide (l % 2 = 1))) := by
  have : l % 2 = 0 ∨ l % 2 = 1 := by omega
  rcases this with e | e
  · rw [show (l : Int) % 2 = 0 by omega, e]; cases b <;> decide
  · rw [show (l : Int) % 2 = 1 by omega, e]; cases b <;> decide
theorem X3_valueOf_c {x : Int} {k l : Nat} (hs : ∀ g, g < k → h.1 27 g = bI (gvl gs x g)) (hl : l / 2 < k) (hk : k ≤ 1065) : mx_C mm_X3_valueOf [.ref 22, .int (iI ((l : Int)))] h = some (some (.int (bI (lv gs x l))), h) := by
  rw [c_X3_valueOf, e_X3_valueOf_0, ii_h (by omega), show iI (l : Int) &&& 1 = iI ((l : Int) % 2) from ii_and1 _]
  simp (disch := omega) only [↓reduceIte, ii_lit, ii_add, ii_sub, ii_mul, ii_neg, ii_lt_t, ii_lt_f, ii_le_t, ii_le_f, ii_eq_t, ii_eq_f, ii_in, ii_cl, ii_shr, ii_shl, ii_and1, ii_and255, Option.bind_some, Option.toList, List.cons_append, List.nil_append, Int.toNat_natCast, mu_s, mu_c, mu_k, bI_i0, bI_i1, bI_n, nb_0, nb_1, bI_ft, bI_ff, Bool.false_eq_true, reduceCtorEq, Bool.true_eq_false, decide_true, decide_false, eq_self, Int.reduceAdd, Int.reduceSub, Int.reduceMul, Int.reduceNeg, Int.reduceToNat, tn30, tn31, tn32, tn20, tn21]
  rw [hs _ hl, bI_x]
  rfl
theorem X3_simulateGate_c {x : Int} {g : Nat} (G : GtC z gs h.1) (W : GW z gs) (hg : 9 ≤ g ∧ g < z) (hs : ∀ u, u < g → h.1 27 u = bI (gvl gs x u)) : mx_C mm_X3_simulateGate [.ref 22, .int (iI ((g : Int)))] h = some (some (.int (bI (gvl gs x g))), h) := by
  obtain ⟨G1, G2, G3, G4⟩ := G
  obtain ⟨g1, g2, g3, g4⟩ := G4 g hg.1 hg.2
  obtain ⟨w1, w2, w3, w4, w5⟩ := W g hg.1 hg.2
  have hi : mx_in (iI (g : Int)) 1065 = true := of_eq_true (ii_in (by omega))
  have cl : (iI (g : Int)).toNatClampNeg = g := by rw [ii_cl (by omega)]; omega
  rw [gvl_g W hg, c_X3_simulateGate, e_X3_simulateGate_0, if_pos hi, cl, g3, X3_valueOf_c hs w2.2 (by omega)]
  refine Eq.trans (e_X3_simulateGate_10 ..) ?_
  rw [if_pos hi, cl, g4, X3_valueOf_c hs w3.2 (by omega)]
  refine Eq.trans (e_X3_simulateGate_21 ..) ?_
  rw [if_pos hi, cl, g1]
  have kk : gK (gs g) = 0 ∨ gK (gs g) = 1 ∨ gK (gs g) = 2 := by omega
  unfold gev
  rcases kk with e | e | e
  · rw [e, if_pos rfl]
    refine Eq.trans (e_X3_simulateGate_28_0 ..) ?_
    rw [e_X3_simulateGate_56]
    cases lv gs x (gL (gs g)) <;> cases lv gs x (gR (gs g)) <;> rfl
  · rw [e, if_neg (by decide), if_pos rfl]
    refine Eq.trans (e_X3_simulateGate_28_1 ..) ?_
    rw [e_X3_simulateGate_60]
    cases lv gs x (gL (gs g)) <;> cases lv gs x (gR (gs g)) <;> rfl
  · rw [e, if_neg (by decide), if_neg (by decide)]
    refine Eq.trans (q_lsw 64 dX3_simulateGate_28 (by decide) rfl rfl) ?_
    refine Eq.trans (e_X3_simulateGate_64 ..) ?_
    rw [if_pos hi, cl, g2, X3_valueOf_c hs (w5 e).1.2 (by omega)]
    refine Eq.trans (e_X3_simulateGate_74 ..) ?_
    by_cases q : lv gs x (gC (gs g)) = true
    · rw [if_pos (show bI (lv gs x (gC (gs g))) = 1 by rw [q]; rfl), if_pos q, e_X3_simulateGate_83]
    · have q' : lv gs x (gC (gs g)) = false := by simpa using q
      rw [if_neg (show ¬ bI (lv gs x (gC (gs g))) = 1 by rw [q']; decide), if_neg q, e_X3_simulateGate_83]
theorem X3_simulate_60 {x : Int} {l : Nat} {v2 : Int32} (G : GtC z gs h.1) (W : GW z gs) (hl : l / 2 < z) : ∀ (d g : Nat) (h' : mx_H), 9 ≤ g → (g + d = l / 2 + 1 ∨ (d = 0 ∧ l / 2 < g ∧ g ≤ z)) → SiF h h' → (∀ u, u < g → h'.1 27 u = bI (gvl gs x u)) → ∃ h'', mx_D (3, mm_X3_simulate, 60, [.ref 22, .int (iI ((l : Int))), .int v2, .int (iI (((l / 2 : Nat) : Int))), .int (iI ((g : Int)))], []) h' = some (some (.int (bI (lv gs x l))), h'') ∧ SiF h h'' := by
  intro d
  have z4 := G.2.2.1
  induction d with
  | zero =>
    intro g h' h9 hg F hs
    refine ⟨h', ?_, F⟩
    rw [e_X3_simulate_60, if_pos ((ii_lt (by omega)).mpr (by omega)), X3_valueOf_c hs (by omega) (by omega)]
    exact e_X3_simulate_90 ..
  | succ d ih =>
    intro g h' h9 hg F hs
    have hi : mx_in (iI (g : Int)) 1065 = true := of_eq_true (ii_in (by omega))
    have cl : (iI (g : Int)).toNatClampNeg = g := by rw [ii_cl (by omega)]; omega
    obtain ⟨h'', e1, e2⟩ := ih (g + 1) (mx_u h'.1 27 g (bI (gvl gs x g)), h'.2.1, h'.2.2) (by omega) (by omega) ⟨fun a k ha => by dsimp only; rw [mu_c _ _ _ _ ha]; exact F.1 a k ha, F.2⟩ (fun u hu => by
      dsimp only
      by_cases e : u = g
      · rw [e, mu_s]
      · rw [mu_k _ _ e]; exact hs u (by omega))
    refine ⟨h'', ?_, e2⟩
    rw [e_X3_simulate_60, if_neg (fun q => by have := (ii_lt (by omega)).mp q; omega), X3_simulateGate_c (GtC_si G F) W (by omega) hs]
    refine Eq.trans (e_X3_simulate_78 ..) ?_
    rw [if_pos hi, cl]
    refine Eq.trans ?_ e1
    rw [show iI (g : Int) + 1 = iI ((g + 1 : Nat) : Int) by rw [show (1 : Int32) = iI 1 from rfl, ii_add]; rfl]
theorem X3_simulate_28 {x : Int} (hx : i32 x) {l : Nat} (G : GtC z gs h.1) (W : GW z gs) (hl : l / 2 < z) : ∀ (d k : Nat) (h' : mx_H), k + d = 8 → SiF h h' → (∀ u, u < 1 + k → h'.1 27 u = bI (gvl gs x u)) → ∃ h'', mx_D (3, mm_X3_simulate, 28, [.ref 22, .int (iI ((l : Int))), .int (iI (x)), .int (iI (((l / 2 : Nat) : Int))), .int (iI ((k : Int)))], []) h' = some (some (.int (bI (lv gs x l))), h'') ∧ SiF h h'' := by
  intro d
  induction d with
  | zero =>
    intro k h' hk F hs
    rw [e_X3_simulate_28, if_pos (show (8 : Int32) ≤ iI (k : Int) from (ii_le (a := 8) (b := (k : Int)) (by omega)).mpr (by omega))]
    by_cases q : l / 2 < 9
    · exact X3_simulate_60 G W hl 0 9 h' (by omega) (Or.inr ⟨rfl, q, G.2.1⟩) F (fun u hu => hs u (by omega))
    · exact X3_simulate_60 G W hl (l / 2 + 1 - 9) 9 h' (by omega) (Or.inl (by omega)) F (fun u hu => hs u (by omega))
  | succ d ih =>
    intro k h' hk F hs
    rw [e_X3_simulate_28, if_neg (show ¬ (8 : Int32) ≤ iI (k : Int) from fun q => by have := (ii_le (a := 8) (b := (k : Int)) (by omega)).mp q; omega)]
    have e1 : (1 : Int32) + iI (k : Int) = iI ((1 + k : Nat) : Int) := by rw [show (1 : Int32) = iI 1 from rfl, ii_add]; rfl
    have e2 : iI (k : Int) + 1 = iI ((k + 1 : Nat) : Int) := by rw [show (1 : Int32) = iI 1 from rfl, ii_add]; rfl
    have e3 : iI x >>> (iI (k : Int) &&& 31) &&& 1 = bI (gvl gs x (1 + k)) := by
      rw [show (31 : Int32) = iI 31 from rfl, ii_shr (by omega), show (1 : Int32) = iI 1 from rfl, ii_and1, gvl_i (by omega), Int.toNat_natCast, show 1 + k - 1 = k by omega]
      unfold xb
      have : x / 2 ^ k % 2 = 0 ∨ x / 2 ^ k % 2 = 1 := by omega
      rcases this with e | e <;> rw [e] <;> rfl
    rw [e1, e2, e3, if_pos (of_eq_true (ii_in (by omega))), ii_cl (by omega), Int.toNat_natCast]
    exact ih (k + 1) _ (by omega) ⟨fun a j ha => by dsimp only; rw [mu_c _ _ _ _ ha]; exact F.1 a j ha, F.2⟩ (fun u hu => by
      dsimp only
      by_cases e : u = 1 + k
      · rw [e, mu_s]
      · rw [mu_k _ _ e]; exact hs u (by omega))
theorem X3_simulate_c {x : Int} (hx : i32 x) {l : Nat} (G : GtC z gs h.1) (W : GW z gs) (hl : l / 2 < z) : ∃ h', mx_C mm_X3_simulate [.ref 22, .int (iI ((l : Int))), .int (iI (x))] h = some (some (.int (bI (lv gs x l))), h') ∧ SiF h h' := by
  have z4 := G.2.2.1
  rw [c_X3_simulate, e_X3_simulate_0, ii_h (by omega), G.1, if_neg (show ¬ iI ((l / 2 : Nat) : Int) < 0 from fun q => by have := (ii_lt (b := 0) (by omega)).mp q; omega), if_pos ((ii_lt (by omega)).mpr (by omega)), if_pos (by decide)]
  exact X3_simulate_28 hx G W hl 8 0 _ (by omega) ⟨fun a k ha => by dsimp only; rw [mu_c _ _ _ _ ha], rfl⟩ (fun u hu => by
    have : u = 0 := by omega
    rw [this]
    dsimp only
    exact mu_s _ _ _ _)
end SI
