/-! the order in which inputs are decided -/
def oN (s : Sc) (ts : Nat → Tm) (k : Nat) : Nat := (off s ts k).toNat
def bN (s : Sc) (ts : Nat → Tm) (k : Nat) : Nat := (bitsS (tS (ts (sCt s k)))).toNat
def odR (s : Sc) (ts : Nat → Tm) : Nat → Nat → Nat
  | 0, _ => 0
  | k + 1, p => if oN s ts k ≤ p then oN s ts k + oN s ts (k + 1) - p else odR s ts k p
section OR
variable {s : Sc} {n : Nat} {ts : Nat → Tm} {sr : Nat}
theorem ws_so (K : WS s n ts sr) {i : Nat} (hi : i < sNc s) : 0 ≤ tS (ts (sCt s i)) ∧ tS (ts (sCt s i)) ≤ 8 := by
  obtain ⟨k1, k2, k3, k4, k5, k6, k7, _⟩ := K
  exact (k6.1 _ (k7 i hi).1).1.2.1
theorem bN_b (K : WS s n ts sr) {i : Nat} (hi : i < sNc s) : 1 ≤ bN s ts i ∧ bN s ts i ≤ 8 ∧ bitsS (tS (ts (sCt s i))) = (bN s ts i : Int) := by
  have b := bitsS_b (ws_so K hi)
  unfold bN
  omega
theorem oN_i (K : WS s n ts sr) : ∀ i, i ≤ sNc s → off s ts i = (oN s ts i : Int) := by
  intro i
  induction i with
  | zero => intro _; rfl
  | succ i ih =>
    intro hi
    have e : off s ts (i + 1) = off s ts i + bitsS (tS (ts (sCt s i))) := rfl
    have := ih (by omega)
    have b := bN_b K (show i < sNc s by omega)
    unfold oN
    omega
theorem oN_s (K : WS s n ts sr) {i : Nat} (hi : i < sNc s) : oN s ts (i + 1) = oN s ts i + bN s ts i := by
  have e : off s ts (i + 1) = off s ts i + bitsS (tS (ts (sCt s i))) := rfl
  have a := oN_i K i (by omega)
  have c := oN_i K (i + 1) (by omega)
  have b := bN_b K hi
  omega
theorem oN_m (K : WS s n ts sr) : ∀ d i, i + d ≤ sNc s → oN s ts i ≤ oN s ts (i + d) := by
  intro d
  induction d with
  | zero => intro i _; exact Nat.le_refl _
  | succ d ih =>
    intro i hi
    have := ih i (by omega)
    have := oN_s K (show i + d < sNc s by omega)
    rw [show i + (d + 1) = i + d + 1 by omega]
    omega
theorem oN_le (K : WS s n ts sr) {i j : Nat} (h : i ≤ j) (hj : j ≤ sNc s) : oN s ts i ≤ oN s ts j := by
  have := oN_m K (j - i) i (by omega)
  rw [show i + (j - i) = j by omega] at this
  exact this
theorem oN_B (K : WS s n ts sr) : oN s ts (sNc s) = sBi s := by
  have a := oN_i K (sNc s) (Nat.le_refl _)
  obtain ⟨k1, k2, k3, k4, k5, k6, k7, k8, k9, _⟩ := K
  omega
theorem oN_8 (K : WS s n ts sr) {i : Nat} (hi : i ≤ sNc s) : oN s ts i ≤ 8 := by
  have := oN_le K hi (Nat.le_refl _)
  rw [oN_B K] at this
  have := K.1.2.1
  omega
theorem odR_e (K : WS s n ts sr) {k p : Nat} (h1 : oN s ts k ≤ p) (h2 : p < oN s ts (k + 1)) : ∀ m, k < m → m ≤ sNc s → odR s ts m p = oN s ts k + oN s ts (k + 1) - p := by
  intro m
  induction m with
  | zero => intro h; omega
  | succ m ih =>
    intro hk hm
    show (if oN s ts m ≤ p then oN s ts m + oN s ts (m + 1) - p else odR s ts m p) = _
    by_cases e : k = m
    · rw [← e, if_pos h1]
    · have := oN_le K (show k + 1 ≤ m by omega) (by omega)
      rw [if_neg (by omega)]
      exact ih (by omega) (by omega)
theorem odR_x (K : WS s n ts sr) : ∀ m, m ≤ sNc s → ∀ p, p < oN s ts m → ∃ k, k < m ∧ oN s ts k ≤ p ∧ p < oN s ts (k + 1) := by
  intro m
  induction m with
  | zero => intro _ p hp; exact absurd hp (Nat.not_lt_zero _)
  | succ m ih =>
    intro hm p hp
    by_cases e : p < oN s ts m
    · obtain ⟨k, k1, k2⟩ := ih (by omega) p e
      exact ⟨k, by omega, k2⟩
    · exact ⟨m, by omega, by omega, hp⟩
theorem od_I (K : WS s n ts sr) : odI (sBi s) (odR s ts (sNc s)) := by
  refine ⟨K.1.2.1, fun p hp => ?_, fun a b hab hb => ?_⟩
  · obtain ⟨k, k1, k2, k3⟩ := odR_x K (sNc s) (Nat.le_refl _) p (by rw [oN_B K]; exact hp)
    rw [odR_e K k2 k3 _ k1 (Nat.le_refl _)]
    have := oN_8 K (show k + 1 ≤ sNc s by omega)
    omega
  · obtain ⟨k, k1, k2, k3⟩ := odR_x K (sNc s) (Nat.le_refl _) a (by rw [oN_B K]; omega)
    obtain ⟨l, l1, l2, l3⟩ := odR_x K (sNc s) (Nat.le_refl _) b (by rw [oN_B K]; exact hb)
    rw [odR_e K k2 k3 _ k1 (Nat.le_refl _), odR_e K l2 l3 _ l1 (Nat.le_refl _)]
    by_cases e : k = l
    · rw [e] at k2 k3 ⊢; omega
    · have : k < l := by
        by_cases y : k < l
        · exact y
        · have := oN_le K (show l + 1 ≤ k by omega) (by omega)
          omega
      have := oN_le K (show k + 1 ≤ l by omega) (by omega)
      omega
/-- which input is decided at which place -/
theorem od_at (K : WS s n ts sr) {k j : Nat} (hk : k < sNc s) (hj : j < bN s ts k) : oN s ts (k + 1) - 1 - j < sBi s ∧ odR s ts (sNc s) (oN s ts (k + 1) - 1 - j) = 1 + oN s ts k + j := by
  have a := oN_s K hk
  have b := oN_le K (show k + 1 ≤ sNc s by omega) (Nat.le_refl _)
  rw [oN_B K] at b
  refine ⟨by omega, ?_⟩
  rw [odR_e K (k := k) (by omega) (by omega) _ hk (Nat.le_refl _)]
  omega
/-- numbers with these bits -/
def Same (s : Sc) (ts : Nat → Tm) (v : Nat) (x : Int) : Prop := ∀ p, p < sBi s → bt v (sBi s - 1 - p) = xb x (odR s ts (sNc s) p - 1)
theorem bt_eq {a b m : Nat} (ha : a < 2 ^ m) (hb : b < 2 ^ m) (h : ∀ i, i < m → bt a i = bt b i) : a = b := by
  refine Nat.eq_of_testBit_eq (fun i => ?_)
  rw [← bt_t, ← bt_t]
  by_cases e : i < m
  · exact h i e
  · rw [bt_hi ha (by omega), bt_hi hb (by omega)]
theorem rhoX_b {x : Int} {u i : Nat} (hi : i < (bitsS (tS (ts u))).toNat) : bt (rhoX ts x u) i = xb x ((to (ts u)).toNat + i) := by
  unfold rhoX bt xb
  have p : ∀ m : Nat, (0 : Int) < 2 ^ m := fun m => Int.pow_pos (by decide)
  have nn : 0 ≤ x / 2 ^ (to (ts u)).toNat % 2 ^ (bitsS (tS (ts u))).toNat := Int.emod_nonneg _ (by have := p (bitsS (tS (ts u))).toNat; omega)
  obtain ⟨y, hy⟩ : ∃ y, y = x / 2 ^ (to (ts u)).toNat := ⟨_, rfl⟩
  obtain ⟨w, hw⟩ : ∃ w, w = (bitsS (tS (ts u))).toNat := ⟨_, rfl⟩
  rw [← hy, ← hw] at nn ⊢
  rw [← hw] at hi
  have e1 : x / 2 ^ ((to (ts u)).toNat + i) = y / 2 ^ i := by
    rw [hy, Int.pow_add, Int.ediv_ediv_of_nonneg (by have := p (to (ts u)).toNat; omega)]
  rw [e1]
  have e2 : (((y % 2 ^ w).toNat / 2 ^ i % 2 : Nat) : Int) = y % 2 ^ w / 2 ^ i % 2 := by
    rw [Int.natCast_emod, Int.natCast_ediv, Int.natCast_pow, Int.toNat_of_nonneg nn]
    rfl
  have e3 : y % 2 ^ w / 2 ^ i % 2 = y / 2 ^ i % 2 := by
    obtain ⟨c, hc⟩ : ∃ c, w = i + 1 + c := ⟨w - (i + 1), by omega⟩
    have q := Int.mul_ediv_add_emod y (2 ^ w)
    have h3 : (2 : Int) ^ w = 2 ^ i * (2 * 2 ^ c) := by
      rw [hc, Int.pow_add, Int.pow_add, Int.pow_one, Int.mul_assoc]
    obtain ⟨r, hr⟩ : ∃ r, r = y % 2 ^ w := ⟨_, rfl⟩
    rw [← hr] at q ⊢
    rw [← q, h3, Int.mul_assoc, Int.mul_assoc, Int.add_comm, Int.add_mul_ediv_left _ _ (by have := p i; omega)]
    rw [Int.add_mul_emod_self_left]
  have e4 : ((y % 2 ^ w).toNat / 2 ^ i % 2 = 1) ↔ (y / 2 ^ i % 2 = 1) := by
    rw [← e3, ← e2]; omega
  exact decide_eq_decide.mpr e4
theorem dl_rho (K : WS s n ts sr) {v : Nat} {x : Int} (h : Same s ts v x) {k : Nat} (hk : k < sNc s) : dl s ts v k = rhoX ts x (sCt s k) := by
  have a1 := oN_i K (k + 1) (by omega)
  have a0 := oN_i K k (by omega)
  have b := oN_le K (show k + 1 ≤ sNc s by omega) (Nat.le_refl _)
  rw [oN_B K] at b
  have os := oN_s K hk
  refine bt_eq (m := bN s ts k) (Nat.mod_lt _ (Nat.pow_pos (by decide))) rhoX_lt (fun i hi => ?_)
  obtain ⟨p1, p2⟩ := od_at K hk hi
  have t := h _ p1
  rw [p2] at t
  have tk := (K.2.2.2.2.2.2.1 k hk).2.2
  rw [rhoX_b hi, tk, a0, Int.toNat_natCast]
  rw [show 1 + oN s ts k + i - 1 = oN s ts k + i by omega] at t
  rw [← t]
  unfold dl
  rw [a1, bt_mod (show i < (bitsS (tS (ts (sCt s k)))).toNat from hi), show ((sBi s : Int) - (oN s ts (k + 1) : Int)).toNat = sBi s - oN s ts (k + 1) by omega, bt_div]
  congr 1
  omega
theorem tv_rho (K : WS s n ts sr) {v : Nat} {x : Int} (h : Same s ts v x) {k : Nat} (hk : k < sNa s) : tvl ts (rhoV s ts v) (sAt s k) = vX ts x (sAt s k) := by
  obtain ⟨k1, k2, k3, k4, k5, k6, k7, k8, k9, k10, k11, _⟩ := K
  refine tvl_al k6 (A := fun u => ∃ i, i < sNc s ∧ sCt s i = u) (fun u hu => ?_) (k11 k hk).1
  obtain ⟨i, i1, i2⟩ := hu
  rw [← i2]
  unfold rhoV
  rw [rhoS_c (sNc s) i1 (fun a b hab hb => k8 a b hab hb)]
  exact dl_rho ⟨k1, k2, k3, k4, k5, k6, k7, k8, k9, k10, k11, by assumption⟩ h i1
/-- from bits of inputs to the number and back -/
theorem vof (K : WS s n ts sr) (x : Int) : ∃ v, v < 2 ^ sBi s ∧ Same s ts v x := by
  have B8 := K.1.2.1
  obtain ⟨P, hP⟩ : ∃ P : Nat → Prop, P = fun q => q < sBi s ∧ xb x (odR s ts (sNc s) (sBi s - 1 - q) - 1) = true := ⟨_, rfl⟩
  refine ⟨mkm P, ?_, fun p hp => ?_⟩
  · have hi : ∀ q, sBi s ≤ q → bP (P q) = 0 := fun q hq => bP_0 (by rw [hP]; intro y; have := y.1; omega)
    have a0 := bP_le (P 0)
    have a1 := bP_le (P 1)
    have a2 := bP_le (P 2)
    have a3 := bP_le (P 3)
    have a4 := bP_le (P 4)
    have a5 := bP_le (P 5)
    have a6 := bP_le (P 6)
    have a7 := bP_le (P 7)
    have c : sBi s = 0 ∨ sBi s = 1 ∨ sBi s = 2 ∨ sBi s = 3 ∨ sBi s = 4 ∨ sBi s = 5 ∨ sBi s = 6 ∨ sBi s = 7 ∨ sBi s = 8 := by omega
    have h0 : sBi s ≤ 0 → bP (P 0) = 0 := hi 0
    have h1 : sBi s ≤ 1 → bP (P 1) = 0 := hi 1
    have h2 : sBi s ≤ 2 → bP (P 2) = 0 := hi 2
    have h3 : sBi s ≤ 3 → bP (P 3) = 0 := hi 3
    have h4 : sBi s ≤ 4 → bP (P 4) = 0 := hi 4
    have h5 : sBi s ≤ 5 → bP (P 5) = 0 := hi 5
    have h6 : sBi s ≤ 6 → bP (P 6) = 0 := hi 6
    have h7 : sBi s ≤ 7 → bP (P 7) = 0 := hi 7
    unfold mkm
    rcases c with e | e | e | e | e | e | e | e | e <;> rw [e] at h0 h1 h2 h3 h4 h5 h6 h7 ⊢ <;> simp only [Nat.reducePow] <;> omega
  · have t := mkm_t (P := P) (p := sBi s - 1 - p) (by omega)
    unfold bt
    rw [hP] at t
    dsimp only at t
    rw [show sBi s - 1 - (sBi s - 1 - p) = p by omega] at t
    cases q : xb x (odR s ts (sNc s) p - 1) with
    | true => exact decide_eq_true (by rw [hP]; exact t.mpr ⟨by omega, q⟩)
    | false => exact decide_eq_false (fun y => by rw [hP] at y; have := (t.mp y).2; rw [q] at this; exact absurd this (by decide))
theorem xof (K : WS s n ts sr) (v : Nat) : ∃ x : Nat, Same s ts v (x : Int) := by
  have O := od_I K
  obtain ⟨P, hP⟩ : ∃ P : Nat → Prop, P = fun i => ∃ p, p < sBi s ∧ odR s ts (sNc s) p = i + 1 ∧ bt v (sBi s - 1 - p) = true := ⟨_, rfl⟩
  refine ⟨mkm P, fun p hp => ?_⟩
  have b := O.2.1 p hp
  have t := mkm_t (P := P) (p := odR s ts (sNc s) p - 1) (by omega)
  have c : ((mkm P : Nat) : Int) / 2 ^ (odR s ts (sNc s) p - 1) % 2 = ((mkm P / 2 ^ (odR s ts (sNc s) p - 1) % 2 : Nat) : Int) := by
    rw [Int.natCast_emod, Int.natCast_ediv, Int.natCast_pow]
    rfl
  unfold xb
  rw [c]
  cases q : bt v (sBi s - 1 - p) with
  | true =>
    have : mkm P / 2 ^ (odR s ts (sNc s) p - 1) % 2 = 1 := t.mpr (by rw [hP]; exact ⟨p, hp, by omega, q⟩)
    exact (decide_eq_true (by omega)).symm
  | false =>
    refine (decide_eq_false (fun y => ?_)).symm
    have y : P (odR s ts (sNc s) p - 1) := t.mp (by omega)
    rw [hP] at y
    obtain ⟨p', p1, p2, p3⟩ := y
    rw [od_inj O p1 hp (by omega), q] at p3
    exact absurd p3 (by decide)
theorem lt_bit : ∀ (B v w : Nat), v < w → w < 2 ^ B → ∃ q, q < B ∧ bt v q = false ∧ bt w q = true ∧ ∀ q', q < q' → bt v q' = bt w q' := by
  intro B
  induction B with
  | zero => intro v w h1 h2; omega
  | succ B ih =>
    intro v w h1 h2
    have h2 : w < 2 ^ B * 2 := h2
    have sh : ∀ a q : Nat, bt (a / 2) q = bt a (q + 1) := fun a q => bt_div (w := 1)
    by_cases e : v / 2 < w / 2
    · obtain ⟨q, q1, q2, q3, q4⟩ := ih (v / 2) (w / 2) e (by omega)
      rw [sh] at q2 q3
      refine ⟨q + 1, by omega, q2, q3, fun q' hq => ?_⟩
      have := q4 (q' - 1) (by omega)
      rw [sh, sh, show q' - 1 + 1 = q' by omega] at this
      exact this
    · have e2 : v / 2 = w / 2 := by omega
      refine ⟨0, by omega, ?_, ?_, fun q' hq => ?_⟩
      · exact decide_eq_false (by rw [show (2 : Nat) ^ 0 = 1 from rfl]; omega)
      · exact decide_eq_true (by rw [show (2 : Nat) ^ 0 = 1 from rfl]; omega)
      · have a := sh v (q' - 1)
        have c := sh w (q' - 1)
        rw [show q' - 1 + 1 = q' by omega] at a c
        rw [← a, ← c, e2]
theorem bst_is {C : Nat → Bool} {w : Nat} (hw : okA s ts C w = true) (lo : ∀ u, u < w → okA s ts C u = false) : ∀ d v, v ≤ w → w < v + d → bst s ts C d v = (w : Int) := by
  intro d
  induction d with
  | zero => intro v h1 h2; omega
  | succ d ih =>
    intro v h1 h2
    show (if okA s ts C v = true then (v : Int) else bst s ts C d (v + 1)) = _
    by_cases e : v = w
    · rw [e, if_pos hw]
    · rw [lo v (by omega), if_neg (by decide)]
      exact ih (v + 1) (by omega) (by omega)
theorem bst_no {C : Nat → Bool} : ∀ d v, (∀ u, v ≤ u → u < v + d → okA s ts C u = false) → bst s ts C d v = -1 := by
  intro d
  induction d with
  | zero => intro v _; rfl
  | succ d ih =>
    intro v h
    show (if okA s ts C v = true then (v : Int) else bst s ts C d (v + 1)) = _
    rw [h v (Nat.le_refl _) (by omega), if_neg (by decide)]
    exact ih (v + 1) (fun u h1 h2 => h u (by omega) (by omega))
end OR
