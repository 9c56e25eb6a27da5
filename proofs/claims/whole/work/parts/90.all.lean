/-! values of all terms; the reference's workAll and holds -/
def tb (ts : Nat → Tm) (ρ : Nat → Nat) : Nat → Nat → Nat
  | 0, _ => 0
  | n + 1, u => if u = n then (if tk (ts n) = 0 then ρ n else opT ts n (tb ts ρ n)) else tb ts ρ n u
def tvl (ts : Nat → Tm) (ρ : Nat → Nat) (u : Nat) : Nat := tb ts ρ (u + 1) u
theorem tb_st {ts : Nat → Tm} {ρ : Nat → Nat} {u : Nat} : ∀ n, u < n → tb ts ρ n u = tvl ts ρ u := by
  intro n
  induction n with
  | zero => intro h; omega
  | succ n ih =>
    intro h
    by_cases e : u = n
    · rw [e]; rfl
    · have : tb ts ρ (n + 1) u = tb ts ρ n u := if_neg e
      rw [this, ih (by omega)]
theorem opT_e {n : Nat} {ts : Nat → Tm} (W : WF n ts) {t : Nat} (ht : t < n) {m m' : Nat → Nat} (h : ∀ u, u < t → m u = m' u) : opT ts t m = opT ts t m' := by
  obtain ⟨_, pl, _⟩ := W.1 t ht
  have p : ∀ a : Int, a < t → prV m a = prV m' a := by
    intro a ha
    unfold prV
    by_cases z : a < 0
    · rw [if_pos z, if_pos z]
    · rw [if_neg z, if_neg z, h _ (by omega)]
  unfold opT
  rw [p _ pl.1, p _ pl.2.1, p _ pl.2.2]
theorem tvl_c {ts : Nat → Tm} {ρ : Nat → Nat} {t : Nat} (h : tk (ts t) = 0) : tvl ts ρ t = ρ t := by
  unfold tvl tb
  rw [if_pos rfl, if_pos h]
theorem tvl_o {n : Nat} {ts : Nat → Tm} (W : WF n ts) {ρ : Nat → Nat} {t : Nat} (ht : t < n) (h : tk (ts t) ≠ 0) : tvl ts ρ t = opT ts t (tvl ts ρ) := by
  have e : tvl ts ρ t = opT ts t (tb ts ρ t) := by
    unfold tvl
    show (if t = t then (if tk (ts t) = 0 then ρ t else opT ts t (tb ts ρ t)) else tb ts ρ t t) = _
    rw [if_pos rfl, if_neg h]
  rw [e]
  exact opT_e W ht (fun u hu => tb_st t hu)
/-- only the constants that a term is built of matter -/
theorem tvl_al {n : Nat} {ts : Nat → Tm} (W : WF n ts) {ρ ρ' : Nat → Nat} {A : Nat → Prop} (hA : ∀ u, A u → ρ u = ρ' u) {t : Nat} (h : al n ts A t) : tvl ts ρ t = tvl ts ρ' t := by
  obtain ⟨S, h1, h2⟩ := h
  have key : ∀ t, S t → tvl ts ρ t = tvl ts ρ' t := by
    intro t
    induction t using Nat.strongRecOn with
    | _ t ih =>
      intro hS
      obtain ⟨a1, a2, a3, a4, a5⟩ := h2 t hS
      by_cases z : tk (ts t) = 0
      · rw [tvl_c z, tvl_c z]
        exact hA t (a2 z)
      · rw [tvl_o W a1 z, tvl_o W a1 z]
        obtain ⟨_, pl, _⟩ := W.1 t a1
        have p : ∀ a : Int, a < t → (0 ≤ a → S a.toNat) → prV (tvl ts ρ) a = prV (tvl ts ρ') a := by
          intro a ha hs
          unfold prV
          by_cases y : a < 0
          · rw [if_pos y, if_pos y]
          · rw [if_neg y, if_neg y]
            exact ih a.toNat (by omega) (hs (by omega))
        unfold opT
        rw [p _ pl.1 a3, p _ pl.2.1 a4, p _ pl.2.2 a5]
  exact key t h1
/-- values of constants, where the reference keeps them -/
def VaM (n : Nat) (ts : Nat → Tm) (h : mx_H) : Prop := (∀ u, u < n → ∃ v : Nat, h.1 68 u = iI (v : Int) ∧ v < 2 ^ (bitsS (tS (ts u))).toNat) ∧ ∀ u, n ≤ u → h.1 68 u = iI 0
def WkF (h h' : mx_H) : Prop := (∀ a k, a ≠ 68 → h'.1 a k = h.1 a k) ∧ h'.2 = h.2
theorem WkF_t {h h1 h2 : mx_H} (a : WkF h h1) (b : WkF h1 h2) : WkF h h2 := ⟨fun x k z => by rw [b.1 x k z, a.1 x k z], by rw [b.2, a.2]⟩
theorem SltM_w {n : Nat} {ts : Nat → Tm} {h h' : mx_H} (F : WkF h h') (S : SltM n ts h.1) : SltM n ts h'.1 := by
  obtain ⟨a, b, d⟩ := S
  refine ⟨(F.1 47 8 (by decide)).trans a, b, fun t ht => ?_⟩
  obtain ⟨⟨b1, b2, b3, b4, b5, b6, b7⟩, e⟩ := d t ht
  exact ⟨⟨(F.1 49 t (by decide)).trans b1, (F.1 50 t (by decide)).trans b2, (F.1 51 t (by decide)).trans b3, (F.1 52 t (by decide)).trans b4, (F.1 53 t (by decide)).trans b5, (F.1 54 t (by decide)).trans b6, (F.1 55 t (by decide)).trans b7⟩, e⟩
theorem ScopeM_w {s : Sc} {h h' : mx_H} (F : WkF h h') (S : ScopeM s h) : ScopeM s h' := by
  obtain ⟨s1, s2, s3, s4, s5, s6⟩ := S
  exact ⟨(F.1 47 28 (by decide)).trans s1, (F.1 47 31 (by decide)).trans s2, (F.1 47 33 (by decide)).trans s3, fun i hi => ⟨by rw [F.2]; exact (s4 i hi).1, (F.1 64 i (by decide)).trans (s4 i hi).2⟩, fun i hi => (F.1 65 i (by decide)).trans (s5 i hi), fun i hi => ⟨(F.1 66 i (by decide)).trans (s6 i hi).1, (F.1 67 i (by decide)).trans (s6 i hi).2⟩⟩
section WA
variable {n : Nat} {ts : Nat → Tm} {s : Sc}
theorem X11_workAll_2 (W : WF n ts) (hn : n ≤ 130) {ρ : Nat → Nat} (hρ : ∀ u, u < n → tk (ts u) = 0 → ρ u < 2 ^ (bitsS (tS (ts u))).toNat) : ∀ (d i : Nat) (h : mx_H), i + d = n → SltM n ts h.1 → (∀ u, u < i → h.1 68 u = iI (tvl ts ρ u : Int) ∧ tvl ts ρ u < 2 ^ (bitsS (tS (ts u))).toNat) → (∀ u, i ≤ u → u < n → tk (ts u) = 0 → h.1 68 u = iI (ρ u : Int)) → ∃ h', mx_D (4, mm_X11_workAll, 2, [.ref 47, .int (iI ((i : Int)))], []) h = some (none, h') ∧ WkF h h' ∧ (∀ u, u < n → h'.1 68 u = iI (tvl ts ρ u : Int) ∧ tvl ts ρ u < 2 ^ (bitsS (tS (ts u))).toNat) ∧ ∀ u, n ≤ u → h'.1 68 u = h.1 68 u := by
  intro d
  induction d with
  | zero =>
    intro i h hi S h1 h2
    refine ⟨h, ?_, ⟨fun _ _ _ => rfl, rfl⟩, fun u hu => h1 u (by omega), fun _ _ => rfl⟩
    rw [e_X11_workAll_2, S.1, if_pos ((ii_le (by omega)).mpr (by omega))]
  | succ d ih =>
    intro i h hi S h1 h2
    obtain ⟨S1, S2, S3⟩ := id S
    obtain ⟨⟨u1, _⟩, ush⟩ := S3 i (by omega)
    have tn : (iI (i : Int)).toNatClampNeg = i := by rw [ii_cl (by omega)]; exact Int.toNat_natCast _
    have tin := in_t (a := (i : Int)) (n := 130) (by omega)
    rw [e_X11_workAll_2, S1, if_neg (fun z => by have := (ii_le (by omega)).mp z; omega), if_pos tin, tn, u1]
    by_cases z : tk (ts i) = 0
    · rw [z, if_pos (show iI 0 = 0 from rfl), e_X11_workAll_30, ii_s1]
      refine ih (i + 1) h (by omega) S (fun u hu => ?_) (fun u p q => h2 u (by omega) q)
      by_cases e : u = i
      · rw [e, tvl_c z]
        exact ⟨h2 i (Nat.le_refl _) (by omega) z, hρ i (by omega) z⟩
      · exact h1 u (by omega)
    · have wk := X11_work_c (m := tvl ts ρ) W hn (fun t ht => (S3 t ht).1) (t := i) (by omega) z (fun u hu => h1 u hu)
      rw [if_neg (show ¬ iI (tk (ts i)) = 0 from fun y => z ((ii_eq (b := 0) (by have := ush.1; omega) (by decide)).mp y)), wk.1]
      have tv := tvl_o W (ρ := ρ) (show i < n by omega) z
      have st : ((some (some (.int (iI ((opT ts i (tvl ts ρ) : Int)))), h) : Option mx_O).bind fun o => mx_D (4, mm_X11_workAll, 29, [.ref 47, .int (iI ((i : Int)))], o.1.toList ++ [.int (iI ((i : Int))), .ref 68]) o.2) = mx_D (4, mm_X11_workAll, 2, [.ref 47, .int (iI (((i + 1 : Nat) : Int)))], []) (mx_u h.1 68 i (iI (tvl ts ρ i : Int)), h.2.1, h.2.2) := by
        refine Eq.trans (e_X11_workAll_29 ..) ?_
        dsimp only
        rw [if_pos tin, tn, e_X11_workAll_30, ii_s1, ← tv]
      rw [st]
      have F1 : WkF h (mx_u h.1 68 i (iI (tvl ts ρ i : Int)), h.2.1, h.2.2) := ⟨fun a k z => by dsimp only; exact mu_c _ _ _ _ z, rfl⟩
      obtain ⟨h', a1, a2, a3, a4⟩ := ih (i + 1) (mx_u h.1 68 i (iI (tvl ts ρ i : Int)), h.2.1, h.2.2) (by omega) (SltM_w F1 S) (fun u hu => by
        dsimp only
        by_cases e : u = i
        · rw [e, mu_s]
          refine ⟨rfl, ?_⟩
          rw [tv]
          exact wk.2
        · rw [mu_k _ _ e]
          exact h1 u (by omega)) (fun u p q r => by
        dsimp only
        rw [mu_k _ _ (by omega)]
        exact h2 u (by omega) q r)
      exact ⟨h', a1, WkF_t F1 a2, a3, fun u hu => by rw [a4 u hu]; dsimp only; rw [mu_k _ _ (by omega)]⟩
theorem X11_workAll_c (W : WF n ts) (hn : n ≤ 130) {ρ : Nat → Nat} {h : mx_H} (S : SltM n ts h.1) (hρ : ∀ u, u < n → tk (ts u) = 0 → h.1 68 u = iI (ρ u : Int) ∧ ρ u < 2 ^ (bitsS (tS (ts u))).toNat) : ∃ h', mx_C mm_X11_workAll [.ref 47] h = some (none, h') ∧ WkF h h' ∧ (∀ u, u < n → h'.1 68 u = iI (tvl ts ρ u : Int) ∧ tvl ts ρ u < 2 ^ (bitsS (tS (ts u))).toNat) ∧ ∀ u, n ≤ u → h'.1 68 u = h.1 68 u := by
  rw [c_X11_workAll, e_X11_workAll_0]
  exact X11_workAll_2 W hn (fun u hu z => (hρ u hu z).2) n 0 h (Nat.zero_add _) S (fun u hu => absurd hu (Nat.not_lt_zero u)) (fun u _ q z => (hρ u q z).1)
/-- the values that constants have by the bits of x -/
def rhoX (ts : Nat → Tm) (x : Int) (u : Nat) : Nat := (x / 2 ^ (to (ts u)).toNat % 2 ^ (bitsS (tS (ts u))).toNat).toNat
/-- values set for constants, old ones for others -/
def rhoS (s : Sc) (f : Nat → Nat) (g : Nat → Nat) : Nat → Nat → Nat
  | 0, u => g u
  | i + 1, u => if u = sCt s i then f i else rhoS s f g i u
theorem rhoS_o {f g : Nat → Nat} {u : Nat} : ∀ i, (∀ k, k < i → sCt s k ≠ u) → rhoS s f g i u = g u := by
  intro i
  induction i with
  | zero => intro _; rfl
  | succ i ih =>
    intro h
    have : rhoS s f g (i + 1) u = rhoS s f g i u := if_neg (fun z => h i (by omega) z.symm)
    rw [this]
    exact ih (fun k hk => h k (by omega))
theorem rhoS_c {f g : Nat → Nat} {k : Nat} : ∀ i, k < i → (∀ a b, a < b → b < i → sCt s a < sCt s b) → rhoS s f g i (sCt s k) = f k := by
  intro i
  induction i with
  | zero => intro h _; omega
  | succ i ih =>
    intro h hm
    by_cases e : k = i
    · rw [e]
      exact if_pos rfl
    · have := hm k i (by omega) (by omega)
      have e2 : rhoS s f g (i + 1) (sCt s k) = rhoS s f g i (sCt s k) := if_neg (by omega)
      rw [e2]
      exact ih (by omega) (fun a b p q => hm a b p (by omega))
theorem X11_holds_21 {sr : Nat} (K : WS s n ts sr) {x : Int} (hx : i32 x) (v1 v2 : Int32) {g : Nat → Nat} : ∀ (d i : Nat) (h : mx_H) (v5 : Value), i + d = sNc s → SltM n ts h.1 → ScopeM s h → (∀ u, u < n → h.1 68 u = iI ((rhoS s (fun k => rhoX ts x (sCt s k)) g i u : Nat) : Int)) → (∀ u, n ≤ u → h.1 68 u = iI 0) → ∃ h' v3 v4 v5', mx_D (5, mm_X11_holds, 21, [.ref 47, .int v1, .int v2, .int (iI (x / 2 ^ (off s ts i).toNat)), .int (iI ((i : Int))), v5], []) h = (mx_C mm_X11_workAll [.ref 47] h').bind (fun o => mx_D (5, mm_X11_holds, 82, [.ref 47, .int v1, .int v2, .int v3, .int v4, v5'], o.1.toList ++ []) o.2) ∧ WkF h h' ∧ (∀ u, u < n → h'.1 68 u = iI ((rhoS s (fun k => rhoX ts x (sCt s k)) g (sNc s) u : Nat) : Int)) ∧ ∀ u, n ≤ u → h'.1 68 u = iI 0 := by
  obtain ⟨k1, k2, k3, k4, k5, k6, k7, k8, k9, k10, k11, k12, k13⟩ := K
  have B1 := k1.1
  have ofb := fun i hi => off_b (s := s) ts (fun i hi => (k6.1 _ (k7 i hi).1).1.2.1) i hi
  intro d
  induction d with
  | zero =>
    intro i h v5 hi S SC h1 h2
    have hi' : i = sNc s := by omega
    subst hi'
    refine ⟨h, iI (x / 2 ^ (off s ts (sNc s)).toNat), iI (sNc s : Int), v5, ?_, ⟨fun _ _ _ => rfl, rfl⟩, h1, h2⟩
    rw [e_X11_holds_21, SC.1, if_pos ((ii_le (by omega)).mpr (by omega))]
  | succ d ih =>
    intro i h v5 hi S SC h1 h2
    obtain ⟨n1, n2⟩ := SC.2.2.2.1 i (by omega)
    obtain ⟨c1, c2, c3⟩ := k7 i (by omega)
    obtain ⟨⟨u1, u2, _⟩, ush⟩ := S.2.2 _ c1
    have ob := ofb i (by omega)
    have bb := bitsS_b ush.2.1
    have iin := in_t (a := (i : Int)) (n := 12) (by omega)
    have cin := in_t (a := (sCt s i : Int)) (n := 130) (by omega)
    have iN : (iI (i : Int)).toNatClampNeg = i := by rw [ii_cl (by omega)]; exact Int.toNat_natCast _
    have cN : (iI (sCt s i : Int)).toNatClampNeg = sCt s i := by rw [ii_cl (by omega)]; exact Int.toNat_natCast _
    have ob2 := ofb (i + 1) (by omega)
    have oe : off s ts (i + 1) = off s ts i + bitsS (tS (ts (sCt s i))) := rfl
    have rb : -2147483648 ≤ x / 2 ^ (off s ts i).toNat ∧ x / 2 ^ (off s ts i).toNat < 2147483648 := by
      have hp : (0 : Int) < 2 ^ (off s ts i).toNat := Int.pow_pos (by decide)
      constructor
      · rw [Int.le_ediv_iff_mul_le hp]
        have : (1 : Int) ≤ 2 ^ (off s ts i).toNat := hp
        have := Int.mul_le_mul_of_nonneg_left this (by decide : (0 : Int) ≤ 2147483648)
        omega
      · rw [Int.ediv_lt_iff_lt_mul hp]
        have : (1 : Int) ≤ 2 ^ (off s ts i).toNat := hp
        have := Int.mul_le_mul_of_nonneg_left this (by decide : (0 : Int) ≤ 2147483648)
        omega
    rw [e_X11_holds_21, SC.1, if_neg (fun z => by have := (ii_le (by omega)).mp z; omega), if_pos iin, iN, n2, if_pos cin, cN, u2, X11_bitsOf_c h ush.2.1]
    have bn : ((bitsS (tS (ts (sCt s i)))).toNat : Int) = bitsS (tS (ts (sCt s i))) := by omega
    have st : ((some (some (.int (iI (bitsS (tS (ts (sCt s i)))))), h) : Option mx_O).bind fun o => mx_D (5, mm_X11_holds, 45, [.ref 47, .int v1, .int v2, .int (iI (x / 2 ^ (off s ts i).toNat)), .int (iI ((i : Int))), v5], o.1.toList ++ []) o.2) = mx_D (5, mm_X11_holds, 21, [.ref 47, .int v1, .int v2, .int (iI (x / 2 ^ (off s ts (i + 1)).toNat)), .int (iI (((i + 1 : Nat) : Int))), .int (iI (bitsS (tS (ts (sCt s i)))))], []) (mx_u h.1 68 (sCt s i) (iI ((rhoX ts x (sCt s i) : Nat) : Int)), h.2.1, h.2.2) := by
      refine Eq.trans (e_X11_holds_45 ..) ?_
      dsimp only
      have mk : (1 : Int32) <<< (iI (bitsS (tS (ts (sCt s i)))) &&& 31) - 1 = iI (2 ^ (bitsS (tS (ts (sCt s i)))).toNat - 1) := by
        rw [← bn]; exact ii_all (by omega)
      have e1 : x / 2 ^ (off s ts i).toNat / 2 ^ (bitsS (tS (ts (sCt s i)))).toNat = x / 2 ^ (off s ts (i + 1)).toNat := by
        rw [Int.ediv_ediv_of_nonneg (Int.le_of_lt (Int.pow_pos (by decide))), ← Int.pow_add]
        congr 2
        omega
      have e2 : (x / 2 ^ (off s ts i).toNat) % 2 ^ (bitsS (tS (ts (sCt s i)))).toNat = ((rhoX ts x (sCt s i) : Nat) : Int) := by
        unfold rhoX
        rw [c3, Int.toNat_of_nonneg (Int.emod_nonneg _ (by have : (0 : Int) < 2 ^ (bitsS (tS (ts (sCt s i)))).toNat := Int.pow_pos (by decide); omega))]
      rw [if_pos iin, iN, n2, if_pos cin, cN, mk, ii_msk (by omega), e2, show (31 : Int32) = iI 31 from rfl, ii_shr (by omega), e1, ii_s1]
    rw [st]
    have F1 : WkF h (mx_u h.1 68 (sCt s i) (iI ((rhoX ts x (sCt s i) : Nat) : Int)), h.2.1, h.2.2) := ⟨fun a k z => by dsimp only; exact mu_c _ _ _ _ z, rfl⟩
    obtain ⟨h', v3, v4, v5', a1, a2, a3, a4⟩ := ih (i + 1) _ (.int (iI (bitsS (tS (ts (sCt s i)))))) (by omega) (SltM_w F1 S) (ScopeM_w F1 SC) (fun u hu => by
      dsimp only
      by_cases e : u = sCt s i
      · rw [e, mu_s]
        have : rhoS s (fun k => rhoX ts x (sCt s k)) g (i + 1) (sCt s i) = rhoX ts x (sCt s i) := if_pos rfl
        rw [this]
      · rw [mu_k _ _ e, h1 u hu]
        have : rhoS s (fun k => rhoX ts x (sCt s k)) g (i + 1) u = rhoS s (fun k => rhoX ts x (sCt s k)) g i u := if_neg e
        rw [this]) (fun u hu => by
      dsimp only
      rw [mu_k _ _ (by omega)]
      exact h2 u hu)
    exact ⟨h', v3, v4, v5', a1, WkF_t F1 a2, a3, a4⟩
theorem X11_holds_c {sr : Nat} (K : WS s n ts sr) {k x : Int} (hk : i32 k) (hx : i32 x) {h : mx_H} (S : SltM n ts h.1) (SC : ScopeM s h) (V : VaM n ts h) : ∃ h', mx_C mm_X11_holds [.ref 47, .int (iI (k)), .int (iI (x))] h = some (some (.int (iI (if 0 ≤ k ∧ k < sNa s then (tvl ts (rhoX ts x) (sAt s k.toNat) : Int) else -1))), h') ∧ WkF h h' ∧ VaM n ts h' := by
  obtain ⟨k1, k2, k3, k4, k5, k6, k7, k8, k9, k10, k11, k12, k13⟩ := id K
  have B3 := k1.2.2.1
  have e31 : iI (sNa s : Int) - 1 = iI ((sNa s : Int) - 1) := ii_sub _ 1
  rw [c_X11_holds, e_X11_holds_0, SC.2.1, e31, show mx_C mm_X11_in [.int (iI k), .int 0, .int (iI ((sNa s : Int) - 1))] h = _ from X11_in_c (b := 0) (c := (sNa s : Int) - 1) h ⟨hk, by decide, by omega⟩]
  have st : ((some (some (.int (bI (decide (0 ≤ k ∧ k ≤ (sNa s : Int) - 1)))), h) : Option mx_O).bind fun o => mx_D (5, mm_X11_holds, 11, [.ref 47, .int (iI (k)), .int (iI (x)), mx_junk, mx_junk, mx_junk], o.1.toList ++ []) o.2) = _ := e_X11_holds_11 (s0 := bI (decide (0 ≤ k ∧ k ≤ (sNa s : Int) - 1))) ..
  rw [st]
  by_cases q : 0 ≤ k ∧ k < sNa s
  rotate_left
  · rw [decide_eq_false (by omega), if_pos (show bI false = 0 from rfl), if_neg q]
    exact ⟨h, rfl, ⟨fun _ _ _ => rfl, rfl⟩, V⟩
  rw [decide_eq_true (by omega), if_neg (show ¬ bI true = 0 by decide), if_pos q]
  have hg : ∃ g : Nat → Nat, ∀ u, u < n → h.1 68 u = iI (g u : Int) ∧ g u < 2 ^ (bitsS (tS (ts u))).toNat := by
    refine ⟨fun u => (h.1 68 u).toInt.toNat, fun u hu => ?_⟩
    obtain ⟨v, v1, v2⟩ := V.1 u hu
    have sb := (k6.1 u hu).1.2.1
    have bb := bitsS_b sb
    have : 2 ^ (bitsS (tS (ts u))).toNat ≤ 2 ^ 8 := pw_le (by omega)
    have e : (h.1 68 u).toInt.toNat = v := by rw [v1, ii_ti (by omega)]; omega
    dsimp only
    rw [e]
    exact ⟨v1, v2⟩
  obtain ⟨g, hg⟩ := hg
  have x0 : x / 2 ^ (off s ts 0).toNat = x := by
    show x / 2 ^ (0 : Int).toNat = x
    simp
  obtain ⟨h1, v3, v4, v5, a1, F1, a3, a4⟩ := X11_holds_21 K hx (iI k) (iI x) (g := g) (sNc s) 0 h mx_junk (Nat.zero_add _) S SC (fun u hu => (hg u hu).1) V.2
  rw [x0] at a1
  have rx : ∀ u, u < n → tk (ts u) = 0 → rhoS s (fun k => rhoX ts x (sCt s k)) g (sNc s) u < 2 ^ (bitsS (tS (ts u))).toNat := by
    intro u hu _
    by_cases e : ∃ i, i < sNc s ∧ sCt s i = u
    · obtain ⟨i, hi, rfl⟩ := e
      rw [rhoS_c (sNc s) hi k8]
      unfold rhoX
      have p : (0 : Int) < 2 ^ (bitsS (tS (ts (sCt s i)))).toNat := Int.pow_pos (by decide)
      have l1 := Int.emod_lt_of_pos (x / 2 ^ (to (ts (sCt s i))).toNat) p
      have l2 := Int.emod_nonneg (x / 2 ^ (to (ts (sCt s i))).toNat) (show (2 : Int) ^ (bitsS (tS (ts (sCt s i)))).toNat ≠ 0 by omega)
      have : ((2 ^ (bitsS (tS (ts (sCt s i)))).toNat : Nat) : Int) = 2 ^ (bitsS (tS (ts (sCt s i)))).toNat := by push_cast; rfl
      omega
    · rw [rhoS_o (sNc s) (fun i hi z => e ⟨i, hi, z⟩)]
      exact (hg u hu).2
  obtain ⟨h2, b1, F2, b3, b4⟩ := X11_workAll_c k6 (by omega) (SltM_w F1 S) (fun u hu z => ⟨a3 u hu, rx u hu z⟩)
  have F := WkF_t F1 F2
  have SC2 := ScopeM_w F SC
  obtain ⟨c1, c2⟩ := k11 k.toNat (by omega)
  have lt := al_lt c1
  refine ⟨h2, ?_, F, fun u hu => ⟨_, (b3 u hu).1, (b3 u hu).2⟩, fun u hu => by rw [b4 u hu, a4 u hu]⟩
  refine Eq.trans a1 ?_
  rw [b1]
  refine Eq.trans (e_X11_holds_82 ..) ?_
  dsimp only
  have e65 := SC2.2.2.2.2.1 k.toNat (by omega)
  rw [if_pos (in_t (n := 12) (by omega)), ii_cl (by omega), e65, if_pos (in_t (n := 130) (by omega)), ii_cl (by omega), Int.toNat_natCast, (b3 _ lt).1]
  have := tvl_al k6 (ρ := rhoS s (fun k => rhoX ts x (sCt s k)) g (sNc s)) (ρ' := rhoX ts x) (A := fun u => ∃ i, i < sNc s ∧ sCt s i = u) (by
    rintro u ⟨i, hi, rfl⟩
    exact rhoS_c (sNc s) hi k8) c1
  rw [this]
end WA
