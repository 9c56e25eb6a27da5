/-! the class's check -/
theorem clr_bit {cm k : Nat} (hc : cm < 4096) (hk : k < 12) : ∃ w : Nat, w < 4096 ∧ iI (cm : Int) &&& ((1 <<< (iI (k : Int) &&& 31)) ^^^ (-1)) = iI (w : Int) ∧ ∀ i, i < 12 → (w / 2 ^ i % 2 = 1 ↔ (cm / 2 ^ i % 2 = 1 ∧ i ≠ k)) := by
  have le : cm &&& (4294967295 - 2 ^ k) ≤ cm := Nat.and_le_left
  refine ⟨cm &&& (4294967295 - 2 ^ k), by omega, ?_, fun i hi => ?_⟩
  · have m : ∀ k : Fin 12, (((1 : Int32) <<< (iI ((k.val : Nat) : Int) &&& 31)) ^^^ (-1)).toBitVec.toNat = 4294967295 - 2 ^ k.val := by decide
    have m := m ⟨k, hk⟩
    dsimp only at m
    apply Int32.toBitVec_inj.mp
    apply BitVec.eq_of_toNat_eq
    rw [Int32.toBitVec_and, BitVec.toNat_and, m, ii_nat, ii_nat, BitVec.toNat_ofNat, BitVec.toNat_ofNat, Nat.mod_eq_of_lt (by omega), Nat.mod_eq_of_lt (by omega)]
  · have t : ∀ k : Fin 12, ∀ i : Fin 12, (4294967295 - 2 ^ k.val).testBit i.val = decide (i.val ≠ k.val) := by decide
    have t := t ⟨k, hk⟩ ⟨i, hi⟩
    dsimp only at t
    have a := Nat.testBit_and cm (4294967295 - 2 ^ k) i
    rw [t, Nat.testBit_eq_decide_div_mod_eq, Nat.testBit_eq_decide_div_mod_eq] at a
    have b := congrArg (· = true) a
    simp only [Bool.and_eq_true, decide_eq_true_eq] at b
    exact Iff.of_eq b
theorem ones_bit : ∀ a : Fin 13, ∀ i : Fin 12, ((2 ^ a.val - 1) / 2 ^ i.val % 2 = 1 ↔ i.val < a.val) := by decide
theorem ones_c : ∀ a : Fin 13, ((1 : Int32) <<< (iI ((a.val : Nat) : Int) &&& 31)) - 1 = iI ((2 ^ a.val - 1 : Nat) : Int) := by decide
section XC
variable {s : Sc} {n : Nat} {ts : Nat → Tm} {sr : Nat}
theorem X6_decideNext_c {m v : Nat} {h : mx_H} (e : h.1 33 3 = iI (m : Int)) (m8 : m < 8) (hv : 1 ≤ v ∧ v ≤ 8) : ∃ h', mx_C mm_X6_decideNext [.ref 33, .int (iI ((v : Int)))] h = some (none, h') ∧ h'.1 33 3 = iI ((m + 1 : Nat) : Int) ∧ (∀ p, h'.1 39 p = if p = m then iI (v : Int) else h.1 39 p) ∧ (∀ a k, a ≠ 39 → (a ≠ 33 ∨ k ≠ 3) → h'.1 a k = h.1 a k) ∧ h'.2 = h.2 := by
  refine ⟨((mx_u (mx_u h.1 39 m (iI (v : Int))) 33 3 (iI ((m + 1 : Nat) : Int))), h.2.1, h.2.2), ?_, by dsimp only [mx_u]; rw [if_pos ⟨rfl, rfl⟩], fun p => ?_, fun a k p1 p2 => by dsimp only [mx_u]; rw [if_neg (by omega), if_neg (by omega)], rfl⟩
  · have c : (mx_u h.1 39 m (iI (v : Int))) 33 3 = iI (m : Int) := by dsimp only [mx_u]; rw [if_neg (by omega)]; exact e
    rw [c_X6_decideNext, e_X6_decideNext_0, e, if_neg (fun y => by have := (ii_le (a := 8) (by omega)).mp y; omega), if_neg (fun y => by have := (ii_lt (b := 1) (by omega)).mp y; omega), if_neg (fun y => by have := (ii_le (a := 9) (by omega)).mp y; omega), if_pos (in_ (by omega) (by decide)), cln (by omega), c, e_X6_decideNext_40, ii_s1]
  · dsimp only [mx_u]
    rw [if_neg (by omega)]
    by_cases q : p = m
    · rw [if_pos ⟨rfl, q⟩, if_pos q]
    · rw [if_neg (by omega), if_neg q]
def OrF (h h' : mx_H) : Prop := (∀ a k, a ≠ 39 → (a ≠ 33 ∨ k ≠ 3) → h'.1 a k = h.1 a k) ∧ h'.2 = h.2
theorem order_55 (K : WS s n ts sr) {i : Nat} (hi : i < sNc s) {v2 : Int32} : ∀ (j : Nat) (h : mx_H), j ≤ bN s ts i → h.1 33 3 = iI ((oN s ts (i + 1) - j : Nat) : Int) → (∀ p, p < oN s ts (i + 1) - j → h.1 39 p = iI (odR s ts (i + 1) p : Int)) → ∃ h' v4, mx_D (3, mm_X10_orderInputs, 55, [.ref 0, .int (iI ((i : Int))), .int v2, .int (iI ((oN s ts i : Int))), .int (iI ((j : Int) - 1))], []) h = mx_D (3, mm_X10_orderInputs, 9, [.ref 0, .int (iI (((i + 1 : Nat) : Int))), .int v2, .int (iI ((oN s ts i : Int))), v4], []) h' ∧ OdC (oN s ts (i + 1)) (odR s ts (i + 1)) h' ∧ OrF h h' := by
  have os := oN_s K hi
  have o8 := oN_8 K (show i + 1 ≤ sNc s by omega)
  intro j
  induction j with
  | zero =>
    intro h hj h3 h39
    refine ⟨h, (.int (iI (((0 : Nat) : Int) - 1))), ?_, ⟨h3, h39⟩, fun _ _ _ _ => rfl, rfl⟩
    rw [e_X10_orderInputs_55, if_pos (by decide), ii_s1]
  | succ j ih =>
    intro h hj h3 h39
    obtain ⟨h1, a1, a2, a3, a4, a5⟩ := X6_decideNext_c (v := 1 + oN s ts i + j) h3 (by omega) (by omega)
    obtain ⟨h2, v4, b1, b2, b3⟩ := ih h1 (by omega) (by rw [a2]; congr 2; omega) (fun p hp => by
      rw [a3]
      by_cases e : p = oN s ts (i + 1) - (j + 1)
      · rw [if_pos e]
        have : odR s ts (i + 1) p = oN s ts i + oN s ts (i + 1) - p := if_pos (by omega)
        rw [this]
        congr 2
        omega
      · rw [if_neg e]
        exact h39 p (by omega))
    refine ⟨h2, v4, ?_, b2, fun a k p1 p2 => by rw [b3.1 a k p1 p2, a4 a k p1 p2], by rw [b3.2, a5]⟩
    have e1 : ((j + 1 : Nat) : Int) - 1 = (j : Int) := by omega
    have e2 : ((1 : Int32) + iI (oN s ts i : Int)) + iI (j : Int) = iI ((1 + oN s ts i + j : Nat) : Int) := by
      rw [show (1 : Int32) = iI 1 from rfl, ii_add, ii_add]
      congr 1
    rw [e1, e_X10_orderInputs_55, if_neg (fun y => by have := (ii_lt (b := 0) (by omega)).mp y; omega), e2, a1]
    refine Eq.trans (e_X10_orderInputs_73 ..) ?_
    rw [ii_m1]
    exact b1
theorem order_9 (K : WS s n ts sr) : ∀ (d i : Nat) (h : mx_H) (v2 v3 v4 : Value), i + d = sNc s → ScopeC s h.1 → TermC n ts h.1 h.2.2 → OdC (oN s ts i) (odR s ts i) h → ∃ h', mx_D (3, mm_X10_orderInputs, 9, [.ref 0, .int (iI ((i : Int))), v2, v3, v4], []) h = some (none, h') ∧ OdC (oN s ts (sNc s)) (odR s ts (sNc s)) h' ∧ OrF h h' := by
  intro d
  induction d with
  | zero =>
    intro i h v2 v3 v4 hi S T D
    have e : i = sNc s := by omega
    have B := K.1.1
    rw [e] at D ⊢
    refine ⟨h, ?_, D, fun _ _ _ _ => rfl, rfl⟩
    rw [e_X10_orderInputs_9, S.1, if_pos ((ii_le (by omega)).mpr (by omega))]
  | succ d ih =>
    intro i h v2 v3 v4 hi S T D
    have B := K.1.1
    have hi' : i < sNc s := by omega
    obtain ⟨k1, k2, k3⟩ := K.2.2.2.2.2.2.1 i hi'
    have n6 := K.2.2.1
    have os := oN_s K hi'
    have bb := bN_b K hi'
    have ct : cn1 (ts (sCt s i)) = (oN s ts i : Int) := by
      unfold cn1
      rw [if_neg (by omega), if_pos k2, k3]
      exact oN_i K i (by omega)
    have nu := (X7_numberOf_c T k1).1
    rw [ct] at nu
    have so := X7_sortOf_c T k1
    have bo := X10_bitsOf_c (so := tS (ts (sCt s i))) h (ws_so K hi')
    obtain ⟨h1, v4', a1, a2, a3⟩ := order_55 K hi' (v2 := iI (sCt s i : Int)) (bN s ts i) h (Nat.le_refl _) (by rw [show oN s ts (i + 1) - bN s ts i = oN s ts i by omega]; exact D.1) (fun p hp => by
      have : odR s ts (i + 1) p = odR s ts i p := if_neg (by omega)
      rw [this]
      exact D.2 p (by omega))
    obtain ⟨h2, b1, b2, b3⟩ := ih (i + 1) h1 (.int (iI ((sCt s i : Int)))) (.int (iI ((oN s ts i : Int)))) v4' (by omega) (ScopeC_e (fun a k p1 p2 => a3.1 a k (by omega) (by omega)) S) (TermC_e (a3.1 6 4 (by omega) (by omega)) (fun a k p1 p2 => a3.1 a k (by omega) (by omega)) (by rw [a3.2]) T) a2
    refine ⟨h2, ?_, b2, fun a k p1 p2 => by rw [b3.1 a k p1 p2, a3.1 a k p1 p2], by rw [b3.2, a3.2]⟩
    rw [e_X10_orderInputs_9, S.1, if_neg (fun y => by have := (ii_le (by omega)).mp y; omega), if_pos (in_ (by omega) (by decide)), cln (by omega), (S.2.2.2.2.1 i hi').2]
    show (mx_C mm_X7_numberOf [.ref 6, .int (iI ((sCt s i : Int))), .int (iI (0))] h).bind _ = _
    rw [nu]
    refine Eq.trans (e_X10_orderInputs_39 ..) ?_
    rw [so]
    refine Eq.trans (e_X10_orderInputs_48 ..) ?_
    rw [bo]
    refine Eq.trans (e_X10_orderInputs_51 ..) ?_
    rw [bb.2.2, show iI (bN s ts i : Int) - 1 = iI ((bN s ts i : Int) - 1) from ii_sub _ 1]
    exact a1.trans b1
theorem X10_orderInputs_c (K : WS s n ts sr) {h : mx_H} (S : ScopeC s h.1) (T : TermC n ts h.1 h.2.2) : ∃ h', mx_C mm_X10_orderInputs [.ref 0] h = some (none, h') ∧ OdC (sBi s) (odR s ts (sNc s)) h' ∧ OrF h h' := by
  obtain ⟨h0, hh⟩ : ∃ h0 : mx_H, h0 = ((mx_u h.1 33 3 0), h.2.1, h.2.2) := ⟨_, rfl⟩
  have o0 : ∀ a k, (a ≠ 33 ∨ k ≠ 3) → h0.1 a k = h.1 a k := fun a k p => by rw [hh]; dsimp only [mx_u]; rw [if_neg (by omega)]
  have o1 : h0.1 33 3 = iI ((0 : Nat) : Int) := by rw [hh]; dsimp only [mx_u]; rw [if_pos ⟨rfl, rfl⟩]; rfl
  obtain ⟨h1, a1, a2, a3⟩ := order_9 K (sNc s) 0 h0 mx_junk mx_junk mx_junk (by omega) (ScopeC_e (fun a k p1 p2 => o0 a k (by omega)) S) (TermC_e (o0 6 4 (by omega)) (fun a k p1 p2 => o0 a k (by omega)) (by rw [hh]) T) ⟨o1, fun p hp => absurd hp (Nat.not_lt_zero _)⟩
  rw [oN_B K] at a2
  refine ⟨h1, ?_, a2, fun a k p1 p2 => by rw [a3.1 a k p1 p2, o0 a k p2], by rw [a3.2, hh]⟩
  rw [c_X10_orderInputs, e_X10_orderInputs_0, c_X6_forgetOrder, e_X6_forgetOrder_0]
  refine Eq.trans (e_X10_orderInputs_7 ..) ?_
  rw [← hh]
  exact a1
def RoF (h h' : mx_H) : Prop := (∀ a k, a ≠ 46 → h'.1 a k = h.1 a k) ∧ h'.2 = h.2
theorem roots_2 (K : WS s n ts sr) : ∀ (d i : Nat) (h : mx_H), i + d = sNa s → ScopeC s h.1 → h.1 28 3 = iI (n : Int) → (∀ k, k < i → h.1 46 k = h.1 29 (8 * sAt s k)) → ∃ h', mx_D (2, mm_X10_gatherRoots, 2, [.ref 0, .int (iI ((i : Int)))], []) h = some (none, h') ∧ (∀ k, k < sNa s → h'.1 46 k = h'.1 29 (8 * sAt s k)) ∧ RoF h h' := by
  have B := K.1.2.2.1
  have n6 := K.2.2.1
  intro d
  induction d with
  | zero =>
    intro i h hi S hb H
    refine ⟨h, ?_, by rw [show sNa s = i by omega]; exact H, fun _ _ _ => rfl, rfl⟩
    rw [e_X10_gatherRoots_2, S.2.2.1, if_pos ((ii_le (by omega)).mpr (by omega))]
  | succ d ih =>
    intro i h hi S hb H
    obtain ⟨Sx, a1, _⟩ := (K.2.2.2.2.2.2.2.2.2.2.1 i (by omega)).1
    have tn : sAt s i < n := (by assumption : ∀ u, Sx u → u < n ∧ _) (sAt s i) a1 |>.1
    obtain ⟨h1, hh⟩ : ∃ h1 : mx_H, h1 = ((mx_u h.1 46 i (h.1 29 (8 * sAt s i + 0))), h.2.1, h.2.2) := ⟨_, rfl⟩
    have o1 : ∀ a k, a ≠ 46 → h1.1 a k = h.1 a k := fun a k p => by rw [hh]; dsimp only [mx_u]; rw [if_neg (by omega)]
    obtain ⟨h2, b1, b2, b3⟩ := ih (i + 1) h1 (by omega) (ScopeC_e (fun a k p1 p2 => o1 a k (by omega)) S) (by rw [o1 _ _ (by omega)]; exact hb) (fun k hk => by
      rw [o1 29 _ (by omega)]
      by_cases e : k = i
      · rw [e, hh]; dsimp only [mx_u]; rw [if_pos ⟨rfl, rfl⟩]; rfl
      · rw [hh]; dsimp only [mx_u]; rw [if_neg (by omega)]; exact H k (by omega))
    refine ⟨h2, ?_, b2, fun a k p => by rw [b3.1 a k p, o1 a k p], by rw [b3.2, hh]⟩
    rw [e_X10_gatherRoots_2, S.2.2.1, if_neg (fun y => by have := (ii_le (by omega)).mp y; omega), if_pos (in_ (by omega) (by decide)), cln (by omega), S.2.2.2.2.2.1 i (by omega)]
    show (mx_C mm_X1_bitOf [.ref 28, .int (iI ((sAt s i : Int))), .int (iI (((0 : Nat) : Int)))] h).bind _ = _
    rw [X1_bitOf_v hb (by omega) tn (by omega)]
    refine Eq.trans (e_X10_gatherRoots_35 ..) ?_
    rw [if_pos (in_ (by omega) (by decide)), cln (by omega), ii_s1]
    rw [hh] at b1
    exact b1
theorem X10_gatherRoots_c (K : WS s n ts sr) {h : mx_H} (S : ScopeC s h.1) (hb : h.1 28 3 = iI (n : Int)) : ∃ h', mx_C mm_X10_gatherRoots [.ref 0] h = some (none, h') ∧ (∀ k, k < sNa s → h'.1 46 k = h'.1 29 (8 * sAt s k)) ∧ RoF h h' := by
  obtain ⟨h1, a1, a2⟩ := roots_2 K (sNa s) 0 h (by omega) S hb (fun k hk => by omega)
  refine ⟨h1, ?_, a2⟩
  rw [c_X10_gatherRoots, e_X10_gatherRoots_0]
  exact a1
/-- what canHold finds is what the reference finds -/
theorem can_c (K : WS s n ts sr) {z : Nat} {gs : Nat → Gt} {C : Nat → Bool} {cm : Nat} {h : mx_H} (hcm : cm < 65536) (hC : ∀ k, k < 12 → (cm / 2 ^ k % 2 = 1 ↔ (k < sNa s ∧ C k = true))) (Ci : CirC n ts h n z gs) (D : OdC (sBi s) (odR s ts (sNc s)) h) (R : ∀ k, k < sNa s → h.1 46 k = h.1 29 (8 * sAt s k)) (h36 : h.1 36 0 = 0) : ∃ b h', mx_C mm_X6_canHold [.ref 33, .ref 46, .int (iI ((cm : Int)))] h = some (some (.int b), h') ∧ SF h h' ∧ h'.1 36 0 = 0 ∧ ((b = 0 ∧ lst s ts C = -1) ∨ (b = 1 ∧ 0 ≤ lst s ts C ∧ ∃ x : Nat, x < 256 ∧ (∀ i, i < 8 → (h'.1 41 (1 + i) = 1 ↔ xb (x : Int) i = true)) ∧ ∀ k, k < sNc s → dl s ts (lst s ts C).toNat k = rhoX ts (x : Int) (sCt s k))) := by
  obtain ⟨Ci1, G, W, CB, zb⟩ := Ci
  have B12 := K.1.2.2.1
  have n6 := K.2.2.1
  have O := od_I K
  have WFn : WF n ts := K.2.2.2.2.2.1
  have at_n : ∀ k, k < sNa s → sAt s k < n := fun k hk => by
    obtain ⟨Sx, a1, a2⟩ := (K.2.2.2.2.2.2.2.2.2.2.1 k hk).1
    exact (a2 _ a1).1
  have s0 : ∀ k, k < sNa s → (bitsS (tS (ts (sAt s k)))).toNat = 1 := fun k hk => by rw [(K.2.2.2.2.2.2.2.2.2.2.1 k hk).2]; rfl
  obtain ⟨rl, hrl⟩ : ∃ rl : Nat → Nat, rl = fun k => (h.1 29 (8 * sAt s k)).toNatClampNeg := ⟨_, rfl⟩
  have rt : ∀ k, k < sNa s → h.1 46 k = iI (rl k : Int) ∧ Lm z gs (QT n ts (sAt s k)) (rl k) (fun x => bt (vX ts x (sAt s k)) 0) := by
    intro k hk
    obtain ⟨l, l1, l2⟩ := CB (sAt s k) (at_n k hk) 0 (by rw [s0 k hk]; omega)
    have l1 : h.1 29 (8 * sAt s k) = iI (l : Int) := l1
    have le : rl k = l := by
      rw [hrl]
      dsimp only
      rw [l1]
      exact cln (by have := l2.1; have := G.2.2.1; omega)
    rw [R k hk, le]
    exact ⟨l1, l2⟩
  have lvr : ∀ k, k < sNa s → ∀ x, lv gs x (rl k) = decide (vX ts x (sAt s k) = 1) := by
    intro k hk x
    rw [(rt k hk).2.2.1 x]
    have := vX_lt WFn n6 (x := x) (at_n k hk)
    rw [s0 k hk] at this
    exact bt_01 (by omega)
  have ok : ∀ v x, Same s ts v x → (okA s ts C v = true ↔ SolR gs rl cm x) := by
    intro v x sm
    unfold okA SolR
    rw [decide_eq_true_iff]
    constructor
    · intro q k k12 bk
      obtain ⟨c1, c2⟩ := (hC k k12).mp bk
      have := q k c1 c2
      unfold AT at this
      rw [tv_rho K sm c1] at this
      rw [lvr k c1]
      exact this
    · intro q k c1 c2
      have := q k (by omega) ((hC k (by omega)).mpr ⟨c1, c2⟩)
      rw [lvr k c1] at this
      unfold AT
      rw [tv_rho K sm c1]
      exact this
  have qt : ∀ k, k < sNa s → QT n ts (sAt s k) (fun u => ∃ p, p < sBi s ∧ odR s ts (sNc s) p = u) := by
    intro k hk
    refine ⟨_, (K.2.2.2.2.2.2.2.2.2.2.1 k hk).1, fun u hu _ _ j hj => ?_⟩
    obtain ⟨i, i1, i2⟩ := hu
    rw [← i2] at hj ⊢
    obtain ⟨p1, p2⟩ := od_at K i1 hj
    refine ⟨_, p1, ?_⟩
    rw [p2, (K.2.2.2.2.2.2.1 i i1).2.2, oN_i K i (by omega), Int.toNat_natCast]
  obtain ⟨b, h', a1, a2, a3, a4⟩ := X6_canHold_c G.2.2.1 W (rl := rl) (cm := cm) hcm G O D (fun k k12 bk => (rt k ((hC k k12).mp bk).1).1) (fun k k12 bk => (rt k ((hC k k12).mp bk).1).2.1) (fun k k12 bk => (rt k ((hC k k12).mp bk).1).2.2.2 _ (qt k ((hC k k12).mp bk).1)) h36
  refine ⟨b, h', a1, a2, a3, ?_⟩
  rcases a4 with ⟨e, no⟩ | ⟨e, x, x8, xin, xs, xl⟩
  · left
    refine ⟨e, bst_no _ _ (fun u _ _ => ?_)⟩
    cases q : okA s ts C u with
    | false => rfl
    | true =>
      obtain ⟨y, hy⟩ := xof K u
      exact absurd ((ok u y hy).mp q) (no y)
  · right
    obtain ⟨w, w1, w2⟩ := vof K (x : Int)
    have lw : lst s ts C = (w : Int) := by
      refine bst_is ((ok w x w2).mpr xs) (fun u hu => ?_) _ _ (by omega) (by omega)
      cases q : okA s ts C u with
      | false => rfl
      | true =>
        exfalso
        obtain ⟨y, hy⟩ := xof K u
        have sy := (ok u y hy).mp q
        obtain ⟨j, j1, j2, j3, j4⟩ := lt_bit (sBi s) u w hu w1
        have e1 : sBi s - 1 - (sBi s - 1 - j) = j := by omega
        have b1 := w2 (sBi s - 1 - j) (by omega)
        have b2 := hy (sBi s - 1 - j) (by omega)
        rw [e1, j3] at b1
        rw [e1, j2] at b2
        have := xl y sy (sBi s - 1 - j) (by omega) (fun p' hp' => by
          rw [← w2 p' (by omega), ← hy p' (by omega)]
          exact j4 _ (by omega)) b1.symm
        rw [← b2] at this
        exact absurd this (by decide)
    refine ⟨e, by rw [lw]; omega, x, x8, xin, fun k hk => ?_⟩
    rw [lw, Int.toNat_natCast]
    exact dl_rho K w2 hk
theorem CirC_s {h h' : mx_H} {z : Nat} {gs : Nat → Gt} (e : ∀ a k, 22 ≤ a → a ≤ 32 → a ≠ 27 → h'.1 a k = h.1 a k) (C : CirC n ts h n z gs) : CirC n ts h' n z gs := by
  obtain ⟨C1, ⟨G1, G2, G3, G4⟩, W, CB, zb⟩ := C
  refine ⟨by rw [e _ _ (by omega) (by omega) (by omega)]; exact C1, ⟨by rw [e _ _ (by omega) (by omega) (by omega)]; exact G1, G2, G3, fun g p1 p2 => ?_⟩, W, fun t ht i hi => ?_, zb⟩
  · rw [e _ _ (by omega) (by omega) (by omega), e _ _ (by omega) (by omega) (by omega), e _ _ (by omega) (by omega) (by omega), e _ _ (by omega) (by omega) (by omega)]
    exact G4 g p1 p2
  · obtain ⟨l, l1, l2⟩ := CB t ht i hi
    exact ⟨l, by rw [e _ _ (by omega) (by omega) (by omega)]; exact l1, l2⟩
theorem cr_hi : ∀ k i, k ≤ i → cr s ts k i = decide (i < sNa s) := by
  intro k
  induction k with
  | zero => intro i _; rfl
  | succ k ih =>
    intro i hi
    show (if i = k then decide (0 ≤ lst s ts (off1 (cr s ts k) k)) else cr s ts k i) = _
    rw [if_neg (by omega)]
    exact ih i (by omega)
theorem cr_lo : ∀ k i, k ≤ sNa s → cr s ts k i = true → i < sNa s := by
  intro k
  induction k with
  | zero => intro i _ h; exact of_decide_eq_true h
  | succ k ih =>
    intro i hk h
    have h : (if i = k then decide (0 ≤ lst s ts (off1 (cr s ts k) k)) else cr s ts k i) = true := h
    by_cases e : i = k
    · omega
    · rw [if_neg e] at h
      exact ih i (by omega) h
theorem core_4 (K : WS s n ts sr) {z : Nat} {gs : Nat → Gt} {v1 : Int32} : ∀ (d k : Nat) (cm : Nat) (h : mx_H) (v4 : Value), k + d = sNa s → cm < 4096 → (∀ i, i < 12 → (cm / 2 ^ i % 2 = 1 ↔ cr s ts k i = true)) → h.1 11 5 = iI (sNa s : Int) → CirC n ts h n z gs → OdC (sBi s) (odR s ts (sNc s)) h → (∀ k, k < sNa s → h.1 46 k = h.1 29 (8 * sAt s k)) → h.1 36 0 = 0 → ∃ cm' h', mx_D (15, mm_X10_coreOf, 4, [.ref 0, .int v1, .int (iI ((cm : Int))), .int (iI ((k : Int))), v4], []) h = some (some (.int (iI (((cm' : Nat) : Int)))), h') ∧ cm' < 4096 ∧ (∀ i, i < 12 → (cm' / 2 ^ i % 2 = 1 ↔ cr s ts (sNa s) i = true)) ∧ SF h h' ∧ h'.1 36 0 = 0 := by
  have B12 := K.1.2.2.1
  intro d
  induction d with
  | zero =>
    intro k cm h v4 hk c4 H S Ci D R h36
    refine ⟨cm, h, ?_, c4, by rw [show sNa s = k by omega]; exact H, SF_r h, h36⟩
    rw [e_X10_coreOf_4, S, if_pos ((ii_le (by omega)).mpr (by omega))]
  | succ d ih =>
    intro k cm h v4 hk c4 H S Ci D R h36
    obtain ⟨w, w1, w2, w3⟩ := clr_bit c4 (show k < 12 by omega)
    obtain ⟨b, h1, a1, a2, a3, a4⟩ := can_c K (C := off1 (cr s ts k) k) (cm := w) (by omega) (fun i hi => by
      rw [w3 i hi, H i hi]
      unfold off1
      constructor
      · intro q
        rw [if_neg q.2]
        exact ⟨cr_lo k i (by omega) q.1, q.1⟩
      · intro q
        by_cases e : i = k
        · rw [if_pos e] at q; exact absurd q.2 (by decide)
        · rw [if_neg e] at q; exact ⟨q.2, e⟩) Ci D R h36
    have nx : ∀ (cm2 : Nat), cm2 < 4096 → (∀ i, i < 12 → (cm2 / 2 ^ i % 2 = 1 ↔ cr s ts (k + 1) i = true)) → ∃ cm' h', mx_D (15, mm_X10_coreOf, 4, [.ref 0, .int v1, .int (iI ((cm2 : Int))), .int (iI (((k + 1 : Nat) : Int))), .int (iI ((w : Int)))], []) h1 = some (some (.int (iI (((cm' : Nat) : Int)))), h') ∧ cm' < 4096 ∧ (∀ i, i < 12 → (cm' / 2 ^ i % 2 = 1 ↔ cr s ts (sNa s) i = true)) ∧ SF h h' ∧ h'.1 36 0 = 0 := by
      intro cm2 q1 q2
      obtain ⟨cm', h2, r1, r2, r3, r4, r5⟩ := ih (k + 1) cm2 h1 (.int (iI ((w : Int)))) (by omega) q1 q2 (by rw [a2.1 _ _ (by omega)]; exact S) (CirC_s (fun a k p1 p2 _ => a2.1 a k (by omega)) Ci) ⟨by rw [a2.1 _ _ (by omega)]; exact D.1, fun p hp => by rw [a2.1 _ _ (by omega)]; exact D.2 p hp⟩ (fun k hk => by rw [a2.1 46 k (by omega), a2.1 29 _ (by omega)]; exact R k hk) a3
      exact ⟨cm', h2, r1, r2, r3, SF_t a2 r4, r5⟩
    have cre : ∀ i, cr s ts (k + 1) i = if i = k then decide (0 ≤ lst s ts (off1 (cr s ts k) k)) else cr s ts k i := fun i => rfl
    rcases a4 with ⟨e, l1⟩ | ⟨e, l1, _⟩
    · obtain ⟨cm', h2, r1, r2⟩ := nx w w1 (fun i hi => by
        rw [w3 i hi, H i hi, cre, l1]
        by_cases e : i = k
        · rw [if_pos e]; exact ⟨fun q => absurd e q.2, fun q => absurd q (by decide)⟩
        · rw [if_neg e]; exact ⟨fun q => q.1, fun q => ⟨q, e⟩⟩)
      refine ⟨cm', h2, ?_, r2⟩
      rw [e_X10_coreOf_4, S, if_neg (fun y => by have := (ii_le (by omega)).mp y; omega), w2, a1, e]
      refine Eq.trans (e_X10_coreOf_37 ..) ?_
      rw [if_pos rfl, e_X10_coreOf_43, ii_s1]
      exact r1
    · obtain ⟨cm', h2, r1, r2⟩ := nx cm c4 (fun i hi => by
        rw [H i hi, cre]
        by_cases e : i = k
        · rw [if_pos e, e, cr_hi k k (Nat.le_refl _), decide_eq_true (show k < sNa s by omega), decide_eq_true l1]
        · rw [if_neg e])
      refine ⟨cm', h2, ?_, r2⟩
      rw [e_X10_coreOf_4, S, if_neg (fun y => by have := (ii_le (by omega)).mp y; omega), w2, a1, e]
      refine Eq.trans (e_X10_coreOf_37 ..) ?_
      rw [if_neg (by decide), e_X10_coreOf_43, ii_s1]
      exact r1
/-- what the class keeps -/
def KpC (s : Sc) (ts : Nat → Tm) (h : mx_H) : Prop := (0 ≤ lst s ts (allC s) ∧ h.1 0 8 = iI 1 ∧ ∃ x : Nat, x < 256 ∧ h.1 0 9 = iI (x : Int) ∧ ∀ k, k < sNc s → dl s ts (lst s ts (allC s)).toNat k = rhoX ts (x : Int) (sCt s k)) ∨ (lst s ts (allC s) < 0 ∧ h.1 0 8 = iI 2 ∧ ∃ cm : Nat, cm < 4096 ∧ h.1 0 10 = iI (cm : Int) ∧ ∀ i, i < 12 → (cm / 2 ^ i % 2 = 1 ↔ cr s ts (sNa s) i = true))
/-- cells that check may change -/
def ChF (h h' : mx_H) : Prop := (∀ a k, (a < 33 ∨ 46 < a) → (a ≠ 0 ∨ (k ≠ 8 ∧ k ≠ 9 ∧ k ≠ 10)) → h'.1 a k = h.1 a k) ∧ h'.2 = h.2
theorem X10_check_c (K : WS s n ts sr) {z : Nat} {gs : Nat → Gt} {h : mx_H} (S : ScopeC s h.1) (T : TermC n ts h.1 h.2.2) (Ci : CirC n ts h n z gs) (h36 : h.1 36 0 = 0) (kp : h.1 0 8 = iI 0 ∨ KpC s ts h) : ∃ h', mx_C mm_X10_check [.ref 0] h = some (some (.int (bI (decide (0 ≤ lst s ts (allC s))))), h') ∧ KpC s ts h' ∧ ChF h h' ∧ h'.1 36 0 = 0 := by
  have fin : ∀ (h' : mx_H) (v1 : Value), KpC s ts h' → mx_D (16, mm_X10_check, 75, [.ref 0, v1], []) h' = some (some (.int (bI (decide (0 ≤ lst s ts (allC s))))), h') := by
    intro h' v1 q
    rw [e_X10_check_75]
    rcases q with ⟨l, e, _⟩ | ⟨l, e, _⟩
    · rw [e, if_pos (show iI 1 = (1 : Int32) from rfl), e_X10_check_88, decide_eq_true l]; rfl
    · rw [e, if_neg (by decide), e_X10_check_88, decide_eq_false (by omega)]; rfl
  rcases kp with k0 | kp
  · have B12 := K.1.2.2.1
    obtain ⟨h1, a1, a2, a3⟩ := X10_gatherRoots_c K S Ci.1
    obtain ⟨h2, b1, b2, b3⟩ := X10_orderInputs_c K (h := h1) (ScopeC_e (fun a k p1 p2 => a3.1 a k (by omega)) S) (TermC_e (a3.1 6 4 (by omega)) (fun a k p1 p2 => a3.1 a k (by omega)) (by rw [a3.2]) T)
    have f2 : ∀ a k, a ≠ 46 → a ≠ 39 → (a ≠ 33 ∨ k ≠ 3) → h2.1 a k = h.1 a k := fun a k p1 p2 p3 => by rw [b3.1 a k p2 p3, a3.1 a k p1]
    have hC : ∀ k, k < 12 → ((2 ^ sNa s - 1) / 2 ^ k % 2 = 1 ↔ (k < sNa s ∧ allC s k = true)) := by
      intro k hk
      have := ones_bit ⟨sNa s, by omega⟩ ⟨k, hk⟩
      dsimp only at this
      rw [this]
      unfold allC
      rw [decide_eq_true_iff]
      exact ⟨fun q => ⟨q, q⟩, fun q => q.1⟩
    have c4 : 2 ^ sNa s - 1 < 4096 := by
      have : 2 ^ sNa s ≤ 2 ^ 12 := pw_le B12
      omega
    have Ci2 := CirC_s (h' := h2) (fun a k p1 p2 _ => f2 a k (by omega) (by omega) (by omega)) Ci
    have R2 : ∀ k, k < sNa s → h2.1 46 k = h2.1 29 (8 * sAt s k) := fun k hk => by rw [b3.1 46 k (by omega) (by omega), b3.1 29 _ (by omega) (by omega)]; exact a2 k hk
    obtain ⟨b, h3, c1, c2, c3, c5⟩ := can_c K (C := allC s) (cm := 2 ^ sNa s - 1) (by omega) hC Ci2 b2 R2 (by rw [f2 _ _ (by omega) (by omega) (by omega)]; exact h36)
    have f3 : ∀ a k, (a < 33 ∨ 46 < a) → h3.1 a k = h.1 a k := fun a k p => by rw [c2.1 a k (by omega), f2 a k (by omega) (by omega) (by omega)]
    have g3 : h3.2 = h.2 := by rw [c2.2, b3.2, a3.2]
    have call : mx_C mm_X10_check [.ref 0] h = mx_D (16, mm_X10_check, 39, [.ref 0, .int (iI (((2 ^ sNa s - 1 : Nat) : Int)))], [.int b]) h3 := by
      have o := ones_c ⟨sNa s, by omega⟩
      dsimp only at o
      rw [c_X10_check, e_X10_check_0, k0, if_pos (show iI 0 = (0 : Int32) from rfl), a1, S.2.2.1, o]
      refine Eq.trans (e_X10_check_23 ..) ?_
      rw [b1]
      refine Eq.trans (e_X10_check_27 ..) ?_
      rw [c1]
      rfl
    rw [call, e_X10_check_39]
    rcases c5 with ⟨e, l1⟩ | ⟨e, l1, x, x8, xin, xd⟩
    · obtain ⟨h4, hh⟩ : ∃ h4 : mx_H, h4 = ((mx_u h3.1 0 8 2), h3.2.1, h3.2.2) := ⟨_, rfl⟩
      have o4 : ∀ a k, (a ≠ 0 ∨ k ≠ 8) → h4.1 a k = h3.1 a k := fun a k p => by rw [hh]; dsimp only [mx_u]; rw [if_neg (by omega)]
      have o8 : h4.1 0 8 = iI 2 := by rw [hh]; dsimp only [mx_u]; rw [if_pos ⟨rfl, rfl⟩]; rfl
      obtain ⟨cm, h5, d1, d2, d3, d4, d5⟩ := core_4 K (z := z) (gs := gs) (v1 := iI ((2 ^ sNa s - 1 : Nat) : Int)) (sNa s) 0 (2 ^ sNa s - 1) h4 mx_junk (by omega) c4 (fun i hi => by
        rw [hC i hi]
        unfold allC cr
        rw [decide_eq_true_iff]
        exact ⟨fun q => q.1, fun q => ⟨q, q⟩⟩) (by rw [o4 _ _ (by omega), f3 _ _ (by omega)]; exact S.2.2.1) (CirC_s (fun a k p1 p2 _ => by rw [o4 a k (by omega), c2.1 a k (by omega)]) Ci2) ⟨by rw [o4 _ _ (by omega), c2.1 _ _ (by omega)]; exact b2.1, fun p hp => by rw [o4 _ _ (by omega), c2.1 _ _ (by omega)]; exact b2.2 p hp⟩ (fun k hk => by rw [o4 46 k (by omega), o4 29 _ (by omega), c2.1 46 k (by omega), c2.1 29 _ (by omega)]; exact R2 k hk) (by rw [o4 _ _ (by omega)]; exact c3)
      obtain ⟨h6, hh6⟩ : ∃ h6 : mx_H, h6 = ((mx_u h5.1 0 10 (iI (cm : Int))), h5.2.1, h5.2.2) := ⟨_, rfl⟩
      have o6 : ∀ a k, (a ≠ 0 ∨ k ≠ 10) → h6.1 a k = h5.1 a k := fun a k p => by rw [hh6]; dsimp only [mx_u]; rw [if_neg (by omega)]
      have kp6 : KpC s ts h6 := Or.inr ⟨by omega, by rw [o6 _ _ (by omega), d4.1 _ _ (by omega)]; exact o8, cm, d2, by rw [hh6]; dsimp only [mx_u]; rw [if_pos ⟨rfl, rfl⟩], d3⟩
      refine ⟨h6, ?_, kp6, ⟨fun a k p1 p2 => ?_, ?_⟩, ?_⟩
      · rw [e, if_pos rfl, ← hh, c_X10_coreOf, e_X10_coreOf_0]
        show (mx_D (15, mm_X10_coreOf, 4, [.ref 0, .int (iI (((2 ^ sNa s - 1 : Nat) : Int))), .int (iI (((2 ^ sNa s - 1 : Nat) : Int))), .int (iI (((0 : Nat) : Int))), mx_junk], []) h4).bind _ = _
        rw [d1]
        refine Eq.trans (e_X10_check_72 ..) ?_
        rw [← hh6]
        exact fin h6 _ kp6
      · rw [o6 a k (by omega), d4.1 a k (by omega), o4 a k (by omega), f3 a k p1]
      · rw [hh6]; show h5.2 = h.2; rw [d4.2, hh]; exact g3
      · rw [o6 _ _ (by omega)]; exact d5
    · obtain ⟨h4, hh⟩ : ∃ h4 : mx_H, h4 = ((mx_u h3.1 0 8 1), h3.2.1, h3.2.2) := ⟨_, rfl⟩
      have o4 : ∀ a k, (a ≠ 0 ∨ k ≠ 8) → h4.1 a k = h3.1 a k := fun a k p => by rw [hh]; dsimp only [mx_u]; rw [if_neg (by omega)]
      have o8 : h4.1 0 8 = iI 1 := by rw [hh]; dsimp only [mx_u]; rw [if_pos ⟨rfl, rfl⟩]; rfl
      have inp := X6_inputs_c (h := h4) x8 (fun i hi => by rw [o4 _ _ (by omega)]; exact xin i hi)
      obtain ⟨h6, hh6⟩ : ∃ h6 : mx_H, h6 = ((mx_u h4.1 0 9 (iI (x : Int))), h4.2.1, h4.2.2) := ⟨_, rfl⟩
      have o6 : ∀ a k, (a ≠ 0 ∨ k ≠ 9) → h6.1 a k = h4.1 a k := fun a k p => by rw [hh6]; dsimp only [mx_u]; rw [if_neg (by omega)]
      have kp6 : KpC s ts h6 := Or.inl ⟨l1, by rw [o6 _ _ (by omega)]; exact o8, x, x8, by rw [hh6]; dsimp only [mx_u]; rw [if_pos ⟨rfl, rfl⟩], xd⟩
      refine ⟨h6, ?_, kp6, ⟨fun a k p1 p2 => ?_, ?_⟩, ?_⟩
      · rw [e, if_neg (by decide), ← hh, inp]
        refine Eq.trans (e_X10_check_55 ..) ?_
        rw [← hh6]
        exact fin h6 _ kp6
      · rw [o6 a k (by omega), o4 a k (by omega), f3 a k p1]
      · rw [hh6]; show h4.2 = h.2; rw [hh]; exact g3
      · rw [o6 _ _ (by omega), o4 _ _ (by omega)]; exact c3
  · refine ⟨h, ?_, kp, ⟨fun _ _ _ _ => rfl, rfl⟩, h36⟩
    have ne : ¬ h.1 0 8 = 0 := by
      rcases kp with ⟨_, e, _⟩ | ⟨_, e, _⟩ <;> rw [e] <;> decide
    rw [c_X10_check, e_X10_check_0, if_neg ne]
    exact fin h _ kp
end XC
