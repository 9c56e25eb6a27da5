/-! the reference's deal and least -/
def dl (s : Sc) (ts : Nat → Tm) (v i : Nat) : Nat := v / 2 ^ ((sBi s : Int) - off s ts (i + 1)).toNat % 2 ^ (bitsS (tS (ts (sCt s i)))).toNat
def rhoV (s : Sc) (ts : Nat → Tm) (v : Nat) : Nat → Nat := rhoS s (dl s ts v) (fun _ => 0) (sNc s)
/-- whether assertion k holds at v -/
def AT (s : Sc) (ts : Nat → Tm) (v k : Nat) : Bool := decide (tvl ts (rhoV s ts v) (sAt s k) = 1)
section DE
variable {n : Nat} {ts : Nat → Tm} {s : Sc}
theorem nn_sh {v : Nat} {k : Nat} (hk : k < 32) (hv : v < 65536) : iI (v : Int) >>> (iI (k : Int) &&& 31) = iI ((v / 2 ^ k : Nat) : Int) := by
  rw [show (31 : Int32) = iI 31 from rfl, ii_shr (by omega), Int.toNat_natCast]
  congr 1
theorem nn_ms {v : Nat} {k : Nat} (hk : k ≤ 8) : iI (v : Int) &&& iI (2 ^ k - 1) = iI ((v % 2 ^ k : Nat) : Int) := by
  rw [ii_msk (by omega)]
  congr 1
theorem off_m (ts : Nat → Tm) (hs : ∀ i, i < sNc s → 0 ≤ tS (ts (sCt s i)) ∧ tS (ts (sCt s i)) ≤ 8) : ∀ k i, i + k ≤ sNc s → off s ts i ≤ off s ts (i + k) := by
  intro k
  induction k with
  | zero => intro i _; exact Int.le_refl _
  | succ k ih =>
    intro i h
    have := ih i (by omega)
    have b := bitsS_b (hs (i + k) (by omega))
    have e : off s ts (i + (k + 1)) = off s ts (i + k) + bitsS (tS (ts (sCt s (i + k)))) := rfl
    omega
theorem X11_deal_5 {sr : Nat} (K : WS s n ts sr) {v : Nat} (hv : v < 65536) {g : Nat → Nat} : ∀ (d i : Nat) (h : mx_H) (v5 : Value), i + d = sNc s → SltM n ts h.1 → ScopeM s h → (∀ u, u < n → h.1 68 u = iI ((rhoS s (dl s ts v) g i u : Nat) : Int)) → (∀ u, n ≤ u → h.1 68 u = iI 0) → ∃ h', mx_D (2, mm_X11_deal, 5, [.ref 47, .int (iI ((v : Int))), .int (iI ((sBi s : Int))), .int (iI ((sBi s : Int) - off s ts i)), .int (iI ((i : Int))), v5], []) h = some (none, h') ∧ WkF h h' ∧ (∀ u, u < n → h'.1 68 u = iI ((rhoS s (dl s ts v) g (sNc s) u : Nat) : Int)) ∧ ∀ u, n ≤ u → h'.1 68 u = iI 0 := by
  obtain ⟨k1, k2, k3, k4, k5, k6, k7, k8, k9, k10, k11, k12, k13⟩ := K
  obtain ⟨B1, B2, _⟩ := k1
  have hs := fun i hi => (k6.1 _ (k7 i hi).1).1.2.1
  have ofb := fun i hi => off_b (s := s) ts hs i hi
  intro d
  induction d with
  | zero =>
    intro i h v5 hi S SC h1 h2
    have hi' : i = sNc s := by omega
    subst hi'
    refine ⟨h, ?_, ⟨fun _ _ _ => rfl, rfl⟩, h1, h2⟩
    rw [e_X11_deal_5, SC.1, if_pos ((ii_le (by omega)).mpr (by omega))]
  | succ d ih =>
    intro i h v5 hi S SC h1 h2
    obtain ⟨n1, n2⟩ := SC.2.2.2.1 i (by omega)
    obtain ⟨c1, c2, c3⟩ := k7 i (by omega)
    obtain ⟨⟨u1, u2, _⟩, ush⟩ := S.2.2 _ c1
    have ob := ofb i (by omega)
    have ob2 := ofb (i + 1) (by omega)
    have om := off_m ts hs (sNc s - (i + 1)) (i + 1) (by omega)
    rw [show i + 1 + (sNc s - (i + 1)) = sNc s by omega, k9] at om
    have oe : off s ts (i + 1) = off s ts i + bitsS (tS (ts (sCt s i))) := rfl
    have bb := bitsS_b ush.2.1
    have iin := in_t (a := (i : Int)) (n := 12) (by omega)
    have cin := in_t (a := (sCt s i : Int)) (n := 130) (by omega)
    have iN : (iI (i : Int)).toNatClampNeg = i := by rw [ii_cl (by omega)]; exact Int.toNat_natCast _
    have cN : (iI (sCt s i : Int)).toNatClampNeg = sCt s i := by rw [ii_cl (by omega)]; exact Int.toNat_natCast _
    rw [e_X11_deal_5, SC.1, if_neg (fun z => by have := (ii_le (by omega)).mp z; omega), if_pos iin, iN, n2, if_pos cin, cN, u2, X11_bitsOf_c h ush.2.1]
    have bn : ((bitsS (tS (ts (sCt s i)))).toNat : Int) = bitsS (tS (ts (sCt s i))) := by omega
    have st : ((some (some (.int (iI (bitsS (tS (ts (sCt s i)))))), h) : Option mx_O).bind fun o => mx_D (2, mm_X11_deal, 29, [.ref 47, .int (iI ((v : Int))), .int (iI ((sBi s : Int))), .int (iI ((sBi s : Int) - off s ts i)), .int (iI ((i : Int))), v5], o.1.toList ++ []) o.2) = mx_D (2, mm_X11_deal, 5, [.ref 47, .int (iI ((v : Int))), .int (iI ((sBi s : Int))), .int (iI ((sBi s : Int) - off s ts (i + 1))), .int (iI (((i + 1 : Nat) : Int))), .int (iI (bitsS (tS (ts (sCt s i)))))], []) (mx_u h.1 68 (sCt s i) (iI ((dl s ts v i : Nat) : Int)), h.2.1, h.2.2) := by
      refine Eq.trans (e_X11_deal_29 ..) ?_
      dsimp only
      have mk : (1 : Int32) <<< (iI (bitsS (tS (ts (sCt s i)))) &&& 31) - 1 = iI (2 ^ (bitsS (tS (ts (sCt s i)))).toNat - 1) := by
        rw [← bn]; exact ii_all (by omega)
      have e1 : iI ((sBi s : Int) - off s ts i) - iI (bitsS (tS (ts (sCt s i)))) = iI ((((sBi s : Int) - off s ts (i + 1)).toNat : Nat) : Int) := (ii_sub _ _).trans (congrArg iI (by omega))
      have e2 : iI ((((sBi s : Int) - off s ts (i + 1)).toNat : Nat) : Int) = iI ((sBi s : Int) - off s ts (i + 1)) := congrArg iI (by omega)
      rw [if_pos iin, iN, n2, if_pos cin, cN, mk, e1, nn_sh (by omega) hv, nn_ms (by omega), e2, ii_s1]
      rfl
    rw [st]
    have F1 : WkF h (mx_u h.1 68 (sCt s i) (iI ((dl s ts v i : Nat) : Int)), h.2.1, h.2.2) := ⟨fun a k z => by dsimp only; exact mu_c _ _ _ _ z, rfl⟩
    obtain ⟨h', a1, a2, a3, a4⟩ := ih (i + 1) _ (.int (iI (bitsS (tS (ts (sCt s i)))))) (by omega) (SltM_w F1 S) (ScopeM_w F1 SC) (fun u hu => by
      dsimp only
      by_cases e : u = sCt s i
      · rw [e, mu_s]
        have : rhoS s (dl s ts v) g (i + 1) (sCt s i) = dl s ts v i := if_pos rfl
        rw [this]
      · rw [mu_k _ _ e, h1 u hu]
        have : rhoS s (dl s ts v) g (i + 1) u = rhoS s (dl s ts v) g i u := if_neg e
        rw [this]) (fun u hu => by
      dsimp only
      rw [mu_k _ _ (by omega)]
      exact h2 u hu)
    exact ⟨h', a1, WkF_t F1 a2, a3, a4⟩
theorem VaM_g {h : mx_H} (W : WF n ts) (V : VaM n ts h) : ∃ g : Nat → Nat, ∀ u, u < n → h.1 68 u = iI (g u : Int) ∧ g u < 2 ^ (bitsS (tS (ts u))).toNat := by
  refine ⟨fun u => (h.1 68 u).toInt.toNat, fun u hu => ?_⟩
  obtain ⟨v, v1, v2⟩ := V.1 u hu
  have sb := (W.1 u hu).1.2.1
  have bb := bitsS_b sb
  have : 2 ^ (bitsS (tS (ts u))).toNat ≤ 2 ^ 8 := pw_le (by omega)
  have e : (h.1 68 u).toInt.toNat = v := by rw [v1, ii_ti (by omega)]; omega
  dsimp only
  rw [e]
  exact ⟨v1, v2⟩
theorem X11_deal_c {sr : Nat} (K : WS s n ts sr) {v : Nat} (hv : v < 65536) {h : mx_H} (S : SltM n ts h.1) (SC : ScopeM s h) (V : VaM n ts h) : ∃ h', mx_C mm_X11_deal [.ref 47, .int (iI ((v : Int))), .int (iI ((sBi s : Int)))] h = some (none, h') ∧ WkF h h' ∧ VaM n ts h' ∧ (∀ i, i < sNc s → h'.1 68 (sCt s i) = iI ((dl s ts v i : Nat) : Int)) := by
  obtain ⟨k1, k2, k3, k4, k5, k6, k7, k8, k9, k10, k11, k12, k13⟩ := id K
  obtain ⟨g, hg⟩ := VaM_g k6 V
  have e0 : (sBi s : Int) - off s ts 0 = (sBi s : Int) := Int.sub_zero _
  obtain ⟨h', a1, a2, a3, a4⟩ := X11_deal_5 K hv (g := g) (sNc s) 0 h mx_junk (Nat.zero_add _) S SC (fun u hu => (hg u hu).1) V.2
  rw [e0] at a1
  refine ⟨h', ?_, a2, ⟨fun u hu => ⟨_, a3 u hu, ?_⟩, a4⟩, fun i hi => ?_⟩
  · rw [c_X11_deal, e_X11_deal_0]
    exact a1
  · by_cases e : ∃ i, i < sNc s ∧ sCt s i = u
    · obtain ⟨i, hi, rfl⟩ := e
      rw [rhoS_c (sNc s) hi k8]
      exact Nat.mod_lt _ (Nat.pow_pos (by decide))
    · rw [rhoS_o (sNc s) (fun i hi z => e ⟨i, hi, z⟩)]
      exact (hg u hu).2
  · rw [a3 _ (k7 i hi).1, rhoS_c (sNc s) hi k8]
/-- the least v from v0 below N at which the assertions chosen by C hold -/
def okA (s : Sc) (ts : Nat → Tm) (C : Nat → Bool) (v : Nat) : Bool := decide (∀ k, k < sNa s → C k = true → AT s ts v k = true)
def bst (s : Sc) (ts : Nat → Tm) (C : Nat → Bool) : Nat → Nat → Int
  | 0, _ => -1
  | d + 1, v => if okA s ts C v = true then (v : Int) else bst s ts C d (v + 1)
def lst (s : Sc) (ts : Nat → Tm) (C : Nat → Bool) : Int := bst s ts C (2 ^ sBi s) 0
theorem bst_b (C : Nat → Bool) : ∀ d v, bst s ts C d v = -1 ∨ ((v : Int) ≤ bst s ts C d v ∧ bst s ts C d v < (v : Int) + d ∧ okA s ts C (bst s ts C d v).toNat = true) := by
  intro d
  induction d with
  | zero => intro v; exact Or.inl rfl
  | succ d ih =>
    intro v
    unfold bst
    by_cases q : okA s ts C v = true
    · rw [if_pos q, Int.toNat_natCast]
      exact Or.inr ⟨by omega, by omega, q⟩
    · rw [if_neg q]
      rcases ih (v + 1) with z | z
      · exact Or.inl z
      · exact Or.inr ⟨by omega, by omega, z.2.2⟩
theorem X11_least_18 {h : mx_H} {B : Int32} {C : Nat → Bool} {v : Nat} (hv : v < 256) (SC : ScopeM s h) (hB : ScB s) (hC : ∀ k, k < sNa s → h.1 71 k = bI (C k)) (hT : ∀ k, k < sNa s → h.1 69 (256 * k + v) = bI (AT s ts v k)) (v2 : Int32) : ∀ (d i : Nat) (g : Bool), i + d = sNa s → ∃ v4 v5 : Int32, mx_D (1, mm_X11_least, 18, [.ref 47, .int B, .int v2, .int (iI ((v : Int))), .int (bI g), .int (iI ((i : Int)))], []) h = mx_D (1, mm_X11_least, 81, [.ref 47, .int B, .int v2, .int (iI ((v : Int))), .int v4, .int v5], [.int (if (g && decide (∀ k, k < d → C (i + k) = true → AT s ts v (i + k) = true)) = true then iI (v : Int) else v2)]) h := by
  have B3 := hB.2.2.1
  intro d
  induction d with
  | zero =>
    intro i g hi
    refine ⟨bI g, iI (i : Int), ?_⟩
    rw [e_X11_least_18, SC.2.1, if_pos ((ii_le (by omega)).mpr (by omega)), decide_eq_true (fun k hk => absurd hk (Nat.not_lt_zero k)), Bool.and_true]
    cases g with
    | true => rw [if_neg (show ¬ bI true = 0 by decide), if_pos rfl]
    | false => rw [if_pos (show bI false = 0 from rfl), if_neg (by decide)]
  | succ d ih =>
    intro i g hi
    rw [e_X11_least_18, SC.2.1, if_neg (fun z => by have := (ii_le (by omega)).mp z; omega)]
    have ex : (∀ k, k < d + 1 → C (i + k) = true → AT s ts v (i + k) = true) ↔ ((C i = true → AT s ts v i = true) ∧ ∀ k, k < d → C (i + 1 + k) = true → AT s ts v (i + 1 + k) = true) := by
      constructor
      · intro z
        refine ⟨z 0 (by omega), fun k hk => ?_⟩
        have := z (k + 1) (by omega)
        rw [show i + (k + 1) = i + 1 + k by omega] at this
        exact this
      · intro ⟨z1, z2⟩ k hk
        cases k with
        | zero => exact z1
        | succ k => have := z2 k (by omega); rw [show i + 1 + k = i + (k + 1) by omega] at this; exact this
    have st : ∀ g' : Bool, (g' = (g && decide (C i = true → AT s ts v i = true))) → ∃ v4 v5 : Int32, mx_D (1, mm_X11_least, 63, [.ref 47, .int B, .int v2, .int (iI ((v : Int))), .int (bI g), .int (iI ((i : Int)))], [.int (bI g')]) h = mx_D (1, mm_X11_least, 81, [.ref 47, .int B, .int v2, .int (iI ((v : Int))), .int v4, .int v5], [.int (if (g && decide (∀ k, k < d + 1 → C (i + k) = true → AT s ts v (i + k) = true)) = true then iI (v : Int) else v2)]) h := by
      intro g' hg
      obtain ⟨v4, v5, e⟩ := ih (i + 1) g' (by omega)
      refine ⟨v4, v5, ?_⟩
      rw [e_X11_least_63, ii_s1, e]
      have : (g' && decide (∀ k, k < d → C (i + 1 + k) = true → AT s ts v (i + 1 + k) = true)) = (g && decide (∀ k, k < d + 1 → C (i + k) = true → AT s ts v (i + k) = true)) := by
        rw [hg, Bool.and_assoc]
        congr 1
        rw [← Bool.decide_and]
        exact decide_eq_decide.mpr ex.symm
      rw [this]
    have f62 : mx_D (1, mm_X11_least, 62, [.ref 47, .int B, .int v2, .int (iI ((v : Int))), .int (bI g), .int (iI ((i : Int)))], []) h = mx_D (1, mm_X11_least, 63, [.ref 47, .int B, .int v2, .int (iI ((v : Int))), .int (bI g), .int (iI ((i : Int)))], [.int (bI false)]) h := e_X11_least_62 ..
    have f58 : mx_D (1, mm_X11_least, 58, [.ref 47, .int B, .int v2, .int (iI ((v : Int))), .int (bI g), .int (iI ((i : Int)))], []) h = mx_D (1, mm_X11_least, 63, [.ref 47, .int B, .int v2, .int (iI ((v : Int))), .int (bI g), .int (iI ((i : Int)))], [.int (bI true)]) h := e_X11_least_58 ..
    cases g with
    | false =>
      rw [if_pos (show bI false = 0 from rfl), f62]
      exact st false (by rw [Bool.false_and])
    | true =>
      have e1 : (iI (256 * (i : Int) + (v : Int))).toNatClampNeg = 256 * i + v := by rw [ii_cl (by omega)]; omega
      rw [if_neg (show ¬ bI true = 0 by decide), if_pos (in_t (a := (i : Int)) (n := 12) (by omega)), ii_cl (by omega), Int.toNat_natCast, hC i (by omega)]
      cases c : C i with
      | false =>
        rw [if_pos (show bI false = 0 from rfl), f58]
        exact st true (by rw [Bool.true_and]; symm; exact decide_eq_true (fun z => by rw [c] at z; cases z))
      | true =>
        rw [if_neg (show ¬ bI true = 0 by decide), show (256 : Int32) = iI 256 from rfl, ii_mul, ii_add, if_pos (in_t (n := 3072) (by omega)), e1, hT i (by omega)]
        cases a : AT s ts v i with
        | false =>
          rw [if_pos (show bI false = 0 from rfl), f62]
          exact st false (by rw [Bool.true_and]; symm; exact decide_eq_false (fun z => by have := z c; rw [a] at this; cases this))
        | true =>
          rw [if_neg (show ¬ bI true = 0 by decide), f58]
          exact st true (by rw [Bool.true_and]; symm; exact decide_eq_true (fun _ => a))
theorem X11_least_8 {h : mx_H} {B : Int32} {C : Nat → Bool} {N : Nat} (hN : N ≤ 256) (SC : ScopeM s h) (hB : ScB s) (hC : ∀ k, k < sNa s → h.1 71 k = bI (C k)) (hT : ∀ v k, v < N → k < sNa s → h.1 69 (256 * k + v) = bI (AT s ts v k)) : ∀ (v : Nat) (v4 v5 : Value), v ≤ N → mx_D (1, mm_X11_least, 8, [.ref 47, .int B, .int (iI (bst s ts C (N - v) v)), .int (iI ((v : Int) - 1)), v4, v5], []) h = some (some (.int (iI (bst s ts C N 0))), h) := by
  intro v
  induction v with
  | zero =>
    intro v4 v5 _
    rw [e_X11_least_8, if_pos (by decide)]
    rfl
  | succ v ih =>
    intro v4 v5 hv
    rw [e_X11_least_8, if_neg (fun z => by have := (ii_lt (b := 0) (by omega)).mp z; omega), show (((v + 1 : Nat) : Int) - 1) = (v : Int) by omega]
    obtain ⟨w4, w5, e⟩ := X11_least_18 (ts := ts) (B := B) (v := v) (by omega) SC hB hC (fun k hk => hT v k (by omega) hk) (iI (bst s ts C (N - (v + 1)) (v + 1))) (sNa s) 0 true (Nat.zero_add _)
    refine Eq.trans e ?_
    rw [Bool.true_and, e_X11_least_81]
    have m1 : (-1 : Int32) = iI (-1) := by decide
    have e1 : iI (v : Int) + (-1) = iI ((v : Int) - 1) := by rw [m1, ii_add, ← Int.sub_eq_add_neg]
    have e2 : bst s ts C (N - v) v = if okA s ts C v = true then (v : Int) else bst s ts C (N - (v + 1)) (v + 1) := by
      rw [show N - v = (N - (v + 1)) + 1 by omega]
      rfl
    have e3 : (if decide (∀ k, k < sNa s → C (0 + k) = true → AT s ts v (0 + k) = true) = true then iI (v : Int) else iI (bst s ts C (N - (v + 1)) (v + 1))) = iI (bst s ts C (N - v) v) := by
      rw [e2]
      simp only [Nat.zero_add]
      show (if okA s ts C v = true then iI (v : Int) else iI (bst s ts C (N - (v + 1)) (v + 1))) = _
      split <;> rfl
    rw [e1, e3]
    exact ih _ _ (by omega)
theorem X11_least_c {h : mx_H} {C : Nat → Bool} (SC : ScopeM s h) (hB : ScB s) (hC : ∀ k, k < sNa s → h.1 71 k = bI (C k)) (hT : ∀ v k, v < 2 ^ sBi s → k < sNa s → h.1 69 (256 * k + v) = bI (AT s ts v k)) : mx_C mm_X11_least [.ref 47, .int (iI ((sBi s : Int)))] h = some (some (.int (iI (lst s ts C))), h) := by
  have B2 := hB.2.1
  have p := p2 (s := sBi s) B2
  rw [c_X11_least, e_X11_least_0, ii_all B2]
  have := X11_least_8 (ts := ts) (B := iI (sBi s : Int)) (N := 2 ^ sBi s) (by omega) SC hB hC hT (2 ^ sBi s) mx_junk mx_junk (Nat.le_refl _)
  rw [Nat.sub_self] at this
  have e : ((2 ^ sBi s : Nat) : Int) - 1 = 2 ^ sBi s - 1 := by rw [p.2.2]
  rw [e] at this
  exact this
end DE
