/-! the reference's check -/
def off1 (C : Nat → Bool) (k : Nat) : Nat → Bool := fun i => if i = k then false else C i
/-- the core after k assertions were tried -/
def cr (s : Sc) (ts : Nat → Tm) : Nat → Nat → Bool
  | 0 => fun k => decide (k < sNa s)
  | k + 1 => fun i => if i = k then decide (0 ≤ lst s ts (off1 (cr s ts k) k)) else cr s ts k i
def allC (s : Sc) : Nat → Bool := fun k => decide (k < sNa s)
section CK
variable {n : Nat} {ts : Nat → Tm} {s : Sc}
theorem tvl_lt (W : WF n ts) (hn : n ≤ 130) {ρ : Nat → Nat} (h0 : ∀ u, u < n → tk (ts u) = 0 → ρ u < 2 ^ (bitsS (tS (ts u))).toNat) : ∀ u, u < n → tvl ts ρ u < 2 ^ (bitsS (tS (ts u))).toNat := by
  intro u
  induction u using Nat.strongRecOn with
  | _ u ihu =>
    intro hu
    by_cases z0 : tk (ts u) = 0
    · rw [tvl_c z0]; exact h0 u hu z0
    · rw [tvl_o W hu z0]
      exact (X11_work_c (h := (fun a k => if a = 49 then iI (tk (ts k)) else if a = 50 then iI (tS (ts k)) else if a = 51 then iI (tx (ts k)) else if a = 52 then iI (ty (ts k)) else if a = 53 then iI (tz (ts k)) else if a = 54 then iI (tp (ts k)) else if a = 55 then iI (tq (ts k)) else iI (tvl ts ρ k : Int), fun _ _ => 0, fun _ _ => none)) (m := tvl ts ρ) W hn (fun t ht => ⟨rfl, rfl, rfl, rfl, rfl, rfl, rfl⟩) hu z0 (fun w hw => ⟨rfl, ihu w hw (by omega)⟩)).2
theorem X11_check_7 {sr : Nat} (K : WS s n ts sr) : ∀ (d v : Nat) (h : mx_H) (v3 : Value), v + d = 2 ^ sBi s → SltM n ts h.1 → ScopeM s h → VaM n ts h → (∀ w k, w < v → k < sNa s → h.1 69 (256 * k + w) = bI (AT s ts w k)) → ∃ h' v3', mx_D (5, mm_X11_check, 7, [.ref 47, .int (iI ((sBi s : Int))), .int (iI ((v : Int))), v3], []) h = mx_D (5, mm_X11_check, 80, [.ref 47, .int (iI ((sBi s : Int))), .int (iI (0)), v3'], []) h' ∧ CkF h h' ∧ VaM n ts h' ∧ ∀ w k, w < 2 ^ sBi s → k < sNa s → h'.1 69 (256 * k + w) = bI (AT s ts w k) := by
  obtain ⟨k1, k2, k3, k4, k5, k6, k7, k8, k9, k10, k11, k12, k13⟩ := id K
  have B2 := k1.2.1
  have p := p2 (s := sBi s) B2
  have m1 : (1 : Int32) <<< (iI (sBi s : Int) &&& 31) = iI (2 ^ sBi s) := by
    rw [show (1 : Int32) = iI 1 from rfl, show (31 : Int32) = iI 31 from rfl, ii_1l (by omega), Int.toNat_natCast]
  intro d
  induction d with
  | zero =>
    intro v h v3 hv S SC V HT
    refine ⟨h, v3, ?_, CkF_r, V, fun w k hw hk => HT w k (by omega) hk⟩
    rw [e_X11_check_7, m1, if_pos ((ii_le (by omega)).mpr (by omega))]
    rfl
  | succ d ih =>
    intro v h v3 hv S SC V HT
    rw [e_X11_check_7, m1, if_neg (fun z => by have := (ii_le (by omega)).mp z; omega)]
    obtain ⟨h1, a1, F1, V1, a4⟩ := X11_deal_c K (v := v) (by omega) S SC V
    rw [a1]
    obtain ⟨g, hg⟩ := VaM_g k6 V1
    obtain ⟨h2, b1, F2, b3, b4⟩ := X11_workAll_c k6 (by omega) (ρ := g) (SltM_w F1 S) (fun u hu _ => hg u hu)
    have F12 := WkF_t F1 F2
    have SC2 := ScopeM_w F12 SC
    have V2 : VaM n ts h2 := ⟨fun u hu => ⟨_, (b3 u hu).1, (b3 u hu).2⟩, fun u hu => by rw [b4 u hu]; exact V1.2 u hu⟩
    have gv : ∀ i, i < sNc s → g (sCt s i) = dl s ts v i := by
      intro i hi
      have lt := (k7 i hi).1
      have e := (hg _ lt).1.symm.trans (a4 i hi)
      have l1 := (hg _ lt).2
      have b1 := bitsS_b (k6.1 _ lt).1.2.1
      have l2 : 2 ^ (bitsS (tS (ts (sCt s i)))).toNat ≤ 2 ^ 8 := pw_le (by omega)
      have l3 : dl s ts v i < 2 ^ (bitsS (tS (ts (sCt s i)))).toNat := Nat.mod_lt _ (Nat.pow_pos (by decide))
      have := (ii_eq (by omega) (by omega)).mp e
      omega
    have hv68 : ∀ k, k < sNa s → h2.1 68 (sAt s k) = iI (tvl ts (rhoV s ts v) (sAt s k) : Int) := by
      intro k hk
      obtain ⟨c1, c2⟩ := k11 k hk
      rw [(b3 _ (al_lt c1)).1]
      have := tvl_al k6 (ρ := g) (ρ' := rhoV s ts v) (A := fun u => ∃ i, i < sNc s ∧ sCt s i = u) (by
        rintro u ⟨i, hi, rfl⟩
        rw [gv i hi]
        exact (rhoS_c (sNc s) hi k8).symm) c1
      rw [this]
    have st : ((some (none, h1) : Option mx_O).bind fun o => mx_D (5, mm_X11_check, 20, [.ref 47, .int (iI ((sBi s : Int))), .int (iI ((v : Int))), v3], o.1.toList ++ []) o.2) = mx_D (5, mm_X11_check, 26, [.ref 47, .int (iI ((sBi s : Int))), .int (iI ((v : Int))), .int (iI (0))], []) h2 := by
      refine Eq.trans (e_X11_check_20 ..) ?_
      dsimp only
      rw [b1]
      refine Eq.trans (e_X11_check_24 ..) ?_
      rfl
    obtain ⟨h3, w3, d1, F3, d3, d4, d5⟩ := X11_check_26 K (B := iI (sBi s : Int)) (v := v) (by omega) (sNa s) 0 h2 (Nat.zero_add _) SC2 hv68
    have FF := CkF_t (CkF_w F12) F3
    obtain ⟨h', v3', e1, e2, e3, e4⟩ := ih (v + 1) h3 (.int w3) (by omega) (SltM_k FF S) (ScopeM_k FF SC) (VaM_e d3 V2) (fun w k hw hk => by
      by_cases z : w = v
      · rw [z]; exact d4 k (Nat.zero_le _) hk
      · rw [d5 k w (by omega) (Or.inl z), F12.1 69 _ (by decide)]
        exact HT w k (by omega) hk)
    refine ⟨h', v3', ?_, CkF_t FF e2, e3, e4⟩
    rw [st]
    exact d1.trans e1
theorem X11_check_80 (SCB : ScB s) {B : Int32} {v3 : Value} : ∀ (d i : Nat) (h : mx_H), i + d = 12 → ScopeM s h → (∀ k, k < i → h.1 71 k = bI (allC s k)) → ∃ h', mx_D (5, mm_X11_check, 80, [.ref 47, .int B, .int (iI ((i : Int))), v3], []) h = (mx_C mm_X11_least [.ref 47, .int B] h').bind (fun o => mx_D (5, mm_X11_check, 116, [.ref 47, .int B, .int (iI (12)), v3], o.1.toList ++ []) o.2) ∧ CkF h h' ∧ (∀ u, h'.1 68 u = h.1 68 u) ∧ (∀ u, h'.1 69 u = h.1 69 u) ∧ ∀ k, k < 12 → h'.1 71 k = bI (allC s k) := by
  have B3 := SCB.2.2.1
  intro d
  induction d with
  | zero =>
    intro i h hi SC hC
    have hi' : i = 12 := by omega
    subst hi'
    refine ⟨h, ?_, CkF_r, fun _ => rfl, fun _ => rfl, hC⟩
    rw [e_X11_check_80, if_pos (by decide)]
    rfl
  | succ d ih =>
    intro i h hi SC hC
    have iin := in_t (a := (i : Int)) (n := 12) (by omega)
    have iN : (iI (i : Int)).toNatClampNeg = i := by rw [ii_cl (by omega)]; exact Int.toNat_natCast _
    rw [e_X11_check_80, if_neg (fun z => by have := (ii_le (a := 12) (by omega)).mp z; omega), SC.2.1]
    have st : ∀ b : Bool, b = allC s i → mx_D (5, mm_X11_check, 104, [.ref 47, .int B, .int (iI ((i : Int))), v3], [.int (bI b), .int (iI ((i : Int))), .ref 71]) h = mx_D (5, mm_X11_check, 80, [.ref 47, .int B, .int (iI (((i + 1 : Nat) : Int))), v3], []) (mx_u h.1 71 i (bI (allC s i)), h.2.1, h.2.2) := by
      intro b hb
      rw [e_X11_check_104, if_pos iin, iN, vp_bI, ii_s1, hb]
    have st2 : (if iI (sNa s : Int) ≤ iI (i : Int) then mx_D (5, mm_X11_check, 104, [.ref 47, .int B, .int (iI ((i : Int))), v3], [.int 0, .int (iI ((i : Int))), .ref 71]) h else mx_D (5, mm_X11_check, 104, [.ref 47, .int B, .int (iI ((i : Int))), v3], [.int 1, .int (iI ((i : Int))), .ref 71]) h) = mx_D (5, mm_X11_check, 80, [.ref 47, .int B, .int (iI (((i + 1 : Nat) : Int))), v3], []) (mx_u h.1 71 i (bI (allC s i)), h.2.1, h.2.2) := by
      by_cases z : i < sNa s
      · rw [if_neg (fun y => by have := (ii_le (by omega)).mp y; omega)]
        exact st true (decide_eq_true z).symm
      · rw [if_pos ((ii_le (by omega)).mpr (by omega))]
        exact st false (decide_eq_false z).symm
    rw [st2]
    have F1 : CkF h (mx_u h.1 71 i (bI (allC s i)), h.2.1, h.2.2) := CkF_u (by omega)
    obtain ⟨h', a1, a2, a3, a4, a5⟩ := ih (i + 1) (mx_u h.1 71 i (bI (allC s i)), h.2.1, h.2.2) (by omega) (ScopeM_k F1 SC) (fun k hk => by
      dsimp only
      by_cases e : k = i
      · rw [e, mu_s]
      · rw [mu_k _ _ e]; exact hC k (by omega))
    exact ⟨h', a1, CkF_t F1 a2, fun u => by rw [a3 u]; dsimp only; rw [mu_c _ _ _ _ (by decide)], fun u => by rw [a4 u]; dsimp only; rw [mu_c _ _ _ _ (by decide)], a5⟩
theorem X11_check_134 {sr : Nat} (K : WS s n ts sr) {B v2 : Int32} {v : Nat} : ∀ (d i : Nat) (h : mx_H), i + d = sNc s → ScopeM s h → (∀ k, k < sNc s → h.1 68 (sCt s k) = iI ((dl s ts v k : Nat) : Int)) → (∀ k, k < i → h.1 70 k = iI ((dl s ts v k : Nat) : Int)) → ∃ h', mx_D (5, mm_X11_check, 134, [.ref 47, .int B, .int v2, .int (iI ((i : Int)))], []) h = some (some (.int (iI (1))), h') ∧ CkF h h' ∧ (∀ u, h'.1 68 u = h.1 68 u) ∧ h'.1 47 38 = h.1 47 38 ∧ ∀ k, k < sNc s → h'.1 70 k = iI ((dl s ts v k : Nat) : Int) := by
  obtain ⟨k1, k2, k3, k4, k5, k6, k7, k8, k9, k10, k11, k12, k13⟩ := id K
  have B1 := k1.1
  intro d
  induction d with
  | zero =>
    intro i h hi SC h1 h2
    refine ⟨h, ?_, CkF_r, fun _ => rfl, rfl, fun k hk => h2 k (by omega)⟩
    rw [e_X11_check_134, SC.1, if_pos ((ii_le (by omega)).mpr (by omega))]
    rfl
  | succ d ih =>
    intro i h hi SC h1 h2
    have iin := in_t (a := (i : Int)) (n := 12) (by omega)
    have iN : (iI (i : Int)).toNatClampNeg = i := by rw [ii_cl (by omega)]; exact Int.toNat_natCast _
    have lt := (k7 i (by omega)).1
    have n2 := (SC.2.2.2.1 i (by omega)).2
    rw [e_X11_check_134, SC.1, if_neg (fun z => by have := (ii_le (by omega)).mp z; omega), if_pos iin, iN, n2, if_pos (in_t (n := 130) (by omega)), if_pos iin, ii_cl (by omega), Int.toNat_natCast, h1 i (by omega), ii_s1]
    have F1 : CkF h (mx_u h.1 70 i (iI ((dl s ts v i : Nat) : Int)), h.2.1, h.2.2) := CkF_u (by omega)
    obtain ⟨h', a1, a2, a3, a4, a5⟩ := ih (i + 1) (mx_u h.1 70 i (iI ((dl s ts v i : Nat) : Int)), h.2.1, h.2.2) (by omega) (ScopeM_k F1 SC) (fun k hk => by dsimp only; rw [mu_c _ _ _ _ (by decide)]; exact h1 k hk) (fun k hk => by
      dsimp only
      by_cases e : k = i
      · rw [e, mu_s]
      · rw [mu_k _ _ e]; exact h2 k (by omega))
    exact ⟨h', a1, CkF_t F1 a2, fun u => by rw [a3 u]; dsimp only; rw [mu_c _ _ _ _ (by decide)], by rw [a4]; dsimp only; rw [mu_c _ _ _ _ (by decide)], a5⟩
theorem X11_check_174 (SCB : ScB s) {v2 : Int32} : ∀ (d i : Nat) (h : mx_H), i + d = sNa s → ScopeM s h → (∀ w k, w < 2 ^ sBi s → k < sNa s → h.1 69 (256 * k + w) = bI (AT s ts w k)) → (∀ k, k < 12 → h.1 71 k = bI (cr s ts i k)) → ∃ h', mx_D (5, mm_X11_check, 174, [.ref 47, .int (iI ((sBi s : Int))), .int v2, .int (iI ((i : Int)))], []) h = some (some (.int (iI (0))), h') ∧ CkF h h' ∧ (∀ u, h'.1 68 u = h.1 68 u) ∧ h'.1 47 38 = h.1 47 38 ∧ ∀ k, k < 12 → h'.1 71 k = bI (cr s ts (sNa s) k) := by
  have B3 := SCB.2.2.1
  have p := p2 (s := sBi s) SCB.2.1
  intro d
  induction d with
  | zero =>
    intro i h hi SC HT hC
    have hi' : i = sNa s := by omega
    subst hi'
    refine ⟨h, ?_, CkF_r, fun _ => rfl, rfl, hC⟩
    rw [e_X11_check_174, SC.2.1, if_pos ((ii_le (by omega)).mpr (by omega))]
    rfl
  | succ d ih =>
    intro i h hi SC HT hC
    have iin := in_t (a := (i : Int)) (n := 12) (by omega)
    have iN : (iI (i : Int)).toNatClampNeg = i := by rw [ii_cl (by omega)]; exact Int.toNat_natCast _
    have z0 : vp_nar .boolean (0 : Int32) = bI false := vp_bI false
    rw [e_X11_check_174, SC.2.1, if_neg (fun z => by have := (ii_le (by omega)).mp z; omega), if_pos iin, iN, z0]
    have F1 : CkF h (mx_u h.1 71 i (bI false), h.2.1, h.2.2) := CkF_u (by omega)
    have SC1 := ScopeM_k F1 SC
    have hC1 : ∀ k, k < sNa s → (mx_u h.1 71 i (bI false), h.2.1, h.2.2).1 71 k = bI (off1 (cr s ts i) i k) := by
      intro k hk
      dsimp only
      unfold off1
      by_cases e : k = i
      · rw [e, mu_s, if_pos rfl]
      · rw [mu_k _ _ e, if_neg e]; exact hC k (by omega)
    have HT1 : ∀ w k, w < 2 ^ sBi s → k < sNa s → (mx_u h.1 71 i (bI false), h.2.1, h.2.2).1 69 (256 * k + w) = bI (AT s ts w k) := by
      intro w k hw hk
      dsimp only
      rw [mu_c _ _ _ _ (by decide)]
      exact HT w k hw hk
    rw [X11_least_c SC1 SCB hC1 HT1]
    have lb := bst_b (s := s) (ts := ts) (off1 (cr s ts i) i) (2 ^ sBi s) 0
    have lb' : -1 ≤ lst s ts (off1 (cr s ts i) i) ∧ lst s ts (off1 (cr s ts i) i) < 1000 := by
      unfold lst
      omega
    have st : ((some (some (.int (iI (lst s ts (off1 (cr s ts i) i)))), (mx_u h.1 71 i (bI false), h.2.1, h.2.2)) : Option mx_O).bind fun o => mx_D (5, mm_X11_check, 199, [.ref 47, .int (iI ((sBi s : Int))), .int v2, .int (iI ((i : Int)))], o.1.toList ++ [.int (iI ((i : Int))), .ref 71]) o.2) = mx_D (5, mm_X11_check, 174, [.ref 47, .int (iI ((sBi s : Int))), .int v2, .int (iI (((i + 1 : Nat) : Int)))], []) (mx_u h.1 71 i (bI (decide (0 ≤ lst s ts (off1 (cr s ts i) i)))), h.2.1, h.2.2) := by
      refine Eq.trans (e_X11_check_199 ..) ?_
      dsimp only
      have fin : ∀ b : Bool, mx_D (5, mm_X11_check, 207, [.ref 47, .int (iI ((sBi s : Int))), .int v2, .int (iI ((i : Int)))], [.int (bI b), .int (iI ((i : Int))), .ref 71]) (mx_u h.1 71 i (bI false), h.2.1, h.2.2) = mx_D (5, mm_X11_check, 174, [.ref 47, .int (iI ((sBi s : Int))), .int v2, .int (iI (((i + 1 : Nat) : Int)))], []) (mx_u h.1 71 i (bI b), h.2.1, h.2.2) := by
        intro b
        rw [e_X11_check_207, if_pos iin, iN, vp_bI, ii_s1]
        dsimp only
        rw [mu_uu]
      by_cases z : 0 ≤ lst s ts (off1 (cr s ts i) i)
      · rw [if_neg (fun y => by have := (ii_lt (b := 0) (by omega)).mp y; omega), decide_eq_true z]
        exact fin true
      · rw [if_pos (show iI (lst s ts (off1 (cr s ts i) i)) < 0 from (ii_lt (b := 0) (by omega)).mpr (by omega)), decide_eq_false z]
        exact fin false
    rw [st]
    have F2 : CkF h (mx_u h.1 71 i (bI (decide (0 ≤ lst s ts (off1 (cr s ts i) i)))), h.2.1, h.2.2) := CkF_u (by omega)
    obtain ⟨h', a1, a2, a3, a4, a5⟩ := ih (i + 1) (mx_u h.1 71 i (bI (decide (0 ≤ lst s ts (off1 (cr s ts i) i)))), h.2.1, h.2.2) (by omega) (ScopeM_k F2 SC) (fun w k hw hk => by dsimp only; rw [mu_c _ _ _ _ (by decide)]; exact HT w k hw hk) (fun k hk => by
      dsimp only
      show _ = bI (if k = i then decide (0 ≤ lst s ts (off1 (cr s ts i) i)) else cr s ts i k)
      by_cases e : k = i
      · rw [e, mu_s, if_pos rfl]
      · rw [mu_k _ _ e, if_neg e]; exact hC k hk)
    exact ⟨h', a1, CkF_t F2 a2, fun u => by rw [a3 u]; dsimp only; rw [mu_c _ _ _ _ (by decide)], by rw [a4]; dsimp only; rw [mu_c _ _ _ _ (by decide)], a5⟩
theorem X11_check_c {sr : Nat} (K : WS s n ts sr) {h : mx_H} (S : SltM n ts h.1) (SC : ScopeM s h) (V : VaM n ts h) : ∃ h', mx_C mm_X11_check [.ref 47] h = some (some (.int (bI (decide (0 ≤ lst s ts (allC s))))), h') ∧ CkF h h' ∧ VaM n ts h' ∧ (0 ≤ lst s ts (allC s) → h'.1 47 38 = iI 1 ∧ ∀ k, k < sNc s → h'.1 70 k = iI ((dl s ts (lst s ts (allC s)).toNat k : Nat) : Int)) ∧ (lst s ts (allC s) < 0 → h'.1 47 38 = iI 2 ∧ ∀ k, k < 12 → h'.1 71 k = bI (cr s ts (sNa s) k)) := by
  obtain ⟨k1, k2, k3, k4, k5, k6, k7, k8, k9, k10, k11, k12, k13⟩ := id K
  have p := p2 (s := sBi s) k1.2.1
  have TM : ∀ t, t < n → SlotM (ts t) t h.1 ∧ shp (ts t) := S.2.2
  -- allBits needs no count of terms
  have AB : mx_C mm_X11_allBits [.ref 47] h = some (some (.int (iI ((sBi s : Int)))), h) := by
    rw [c_X11_allBits, e_X11_allBits_0]
    have key : ∀ (d i : Nat), i + d = sNc s → mx_D (2, mm_X11_allBits, 4, [.ref 47, .int (iI (off s ts i)), .int (iI ((i : Int)))], []) h = some (some (.int (iI (off s ts (sNc s)))), h) := by
      intro d
      induction d with
      | zero =>
        intro i hi
        have hi' : i = sNc s := by omega
        rw [e_X11_allBits_4, SC.1, hi', if_pos ((ii_le (by have := k1.1; omega)).mpr (by omega))]
      | succ d ih =>
        intro i hi
        have B1 := k1.1
        obtain ⟨n1, n2⟩ := SC.2.2.2.1 i (by omega)
        have cl := (k7 i (by omega)).1
        obtain ⟨⟨u1, u2, _⟩, ush⟩ := TM _ cl
        rw [e_X11_allBits_4, SC.1, if_neg (fun z => by have := (ii_le (by omega)).mp z; omega), if_pos (in_t (a := (i : Int)) (n := 12) (by omega)), ii_cl (by omega), Int.toNat_natCast, n2, if_pos (in_t (n := 130) (by omega)), ii_cl (by omega), Int.toNat_natCast, u2, X11_bitsOf_c h ush.2.1]
        refine Eq.trans (e_X11_allBits_27 ..) ?_
        rw [ii_add, ii_s1]
        exact ih (i + 1) (by omega)
    have := key (sNc s) 0 (Nat.zero_add _)
    rw [k9] at this
    exact this
  rw [c_X11_check, e_X11_check_0, AB]
  obtain ⟨h1, v3, a1, F1, V1, T1⟩ := X11_check_7 K (2 ^ sBi s) 0 h mx_junk (Nat.zero_add _) S SC V (fun w k hw => absurd hw (Nat.not_lt_zero w))
  have SC1 := ScopeM_k F1 SC
  obtain ⟨h2, b1, F2, b3, b4, b5⟩ := X11_check_80 k1 (B := iI (sBi s : Int)) (v3 := v3) 12 0 h1 rfl SC1 (fun k hk => absurd hk (Nat.not_lt_zero k))
  have F12 := CkF_t F1 F2
  have SC2 := ScopeM_k F12 SC
  have V2 := VaM_e (n := n) (ts := ts) b3 V1
  have T2 : ∀ w k, w < 2 ^ sBi s → k < sNa s → h2.1 69 (256 * k + w) = bI (AT s ts w k) := fun w k hw hk => (b4 _).trans (T1 w k hw hk)
  have B3 := k1.2.2.1
  have lb := bst_b (s := s) (ts := ts) (allC s) (2 ^ sBi s) 0
  have lb' : -1 ≤ lst s ts (allC s) ∧ lst s ts (allC s) < 1000 ∧ lst s ts (allC s) < 2 ^ sBi s := by
    unfold lst
    omega
  have st : ((some (some (.int (iI ((sBi s : Int)))), h) : Option mx_O).bind fun o => mx_D (5, mm_X11_check, 4, [.ref 47, mx_junk, mx_junk, mx_junk], o.1.toList ++ []) o.2) = mx_D (5, mm_X11_check, 116, [.ref 47, .int (iI ((sBi s : Int))), .int (iI (12)), v3], [.int (iI (lst s ts (allC s)))]) h2 := by
    refine Eq.trans (e_X11_check_4 ..) ?_
    refine Eq.trans a1 ?_
    refine Eq.trans b1 ?_
    rw [X11_least_c SC2 k1 (fun k hk => b5 k (by omega)) T2]
    rfl
  rw [st, e_X11_check_116]
  by_cases z : 0 ≤ lst s ts (allC s)
  · rw [if_neg (fun y => by have := (ii_lt (b := 0) (by omega)).mp y; omega), decide_eq_true z]
    obtain ⟨w, hw⟩ : ∃ w : Nat, lst s ts (allC s) = (w : Int) := ⟨_, (Int.toNat_of_nonneg z).symm⟩
    rw [hw, Int.toNat_natCast]
    have F3 : CkF h2 (mx_u h2.1 47 38 1, h2.2.1, h2.2.2) := CkF_u (by omega)
    have FF := CkF_t F12 F3
    obtain ⟨h4, d1, F4, V4, d4⟩ := X11_deal_c K (v := w) (by omega) (SltM_k FF S) (ScopeM_k FF SC) (VaM_e (fun u => by dsimp only; rw [mu_c _ _ _ _ (by decide)]) V2)
    rw [d1]
    have FG := CkF_t FF (CkF_w F4)
    obtain ⟨h5, e1, e2, e3, e4, e5⟩ := X11_check_134 K (B := iI (sBi s : Int)) (v2 := iI (w : Int)) (v := w) (sNc s) 0 h4 (Nat.zero_add _) (ScopeM_k FG SC) d4 (fun k hk => absurd hk (Nat.not_lt_zero k))
    refine ⟨h5, ?_, CkF_t FG e2, VaM_e e3 V4, fun _ => ⟨?_, e5⟩, fun y => by omega⟩
    · refine Eq.trans (e_X11_check_132 ..) ?_
      exact e1
    · rw [e4, F4.1 47 38 (by decide)]
      dsimp only
      rw [mu_s]
      rfl
  · rw [if_pos (show iI (lst s ts (allC s)) < 0 from (ii_lt (b := 0) (by omega)).mpr (by omega)), decide_eq_false z]
    have F3 : CkF h2 (mx_u h2.1 47 38 2, h2.2.1, h2.2.2) := CkF_u (by omega)
    have FF := CkF_t F12 F3
    obtain ⟨h5, e1, e2, e3, e4, e5⟩ := X11_check_174 k1 (ts := ts) (v2 := iI (lst s ts (allC s))) (sNa s) 0 (mx_u h2.1 47 38 2, h2.2.1, h2.2.2) (Nat.zero_add _) (ScopeM_k FF SC) (fun w k hw hk => by dsimp only; rw [mu_c _ _ _ _ (by decide)]; exact T2 w k hw hk) (fun k hk => by dsimp only; rw [mu_c _ _ _ _ (by decide)]; exact b5 k hk)
    refine ⟨h5, e1, CkF_t FF e2, VaM_e (fun u => by rw [e3 u]; dsimp only; rw [mu_c _ _ _ _ (by decide)]) V2, fun y => absurd y z, fun _ => ⟨?_, e5⟩⟩
    rw [e4]
    dsimp only
    rw [mu_s]
    rfl
end CK
