/-! what reading keeps -/
section FP
variable {k : Int} {i : Nat} {o f s u : Int}
theorem fp_a (h : 4 ≤ k ∧ k ≤ 8) : fitP k i o f s u ↔ o = 0 := by unfold fitP; rw [if_pos h]
theorem fp_b (h : k = 9 ∨ k = 10) : fitP k i o f s u ↔ (i = 0 ∨ o = f) := by unfold fitP; rw [if_neg (by omega), if_pos h]
theorem fp_c (h : k = 11) : fitP k i o f s u ↔ (if i = 0 then o = 0 else i = 1 ∨ o = s) := by unfold fitP; rw [if_neg (by omega), if_neg (by omega), if_pos h]
theorem fp_d (h : 12 ≤ k ∧ k ≤ 28) : fitP k i o f s u ↔ (1 ≤ o ∧ o ≤ 4) ∧ (i = 0 ∨ o = f) := by unfold fitP; rw [if_neg (by omega), if_neg (by omega), if_neg (by omega), if_pos h]
theorem fp_e (h : k = 29) : fitP k i o f s u ↔ (1 ≤ o ∧ o ≤ 4) ∧ (i = 0 ∨ o + f ≤ 4) := by unfold fitP; rw [if_neg (by omega), if_neg (by omega), if_neg (by omega), if_neg (by omega), if_pos h]
theorem fp_f (h : k = 30) : fitP k i o f s u ↔ (1 ≤ o ∧ o ≤ 4) ∧ u < o := by unfold fitP; rw [if_neg (by omega), if_neg (by omega), if_neg (by omega), if_neg (by omega), if_neg (by omega), if_pos h]
theorem fp_g (h : k = 31 ∨ k = 32) : fitP k i o f s u ↔ (1 ≤ o ∧ o ≤ 4) ∧ o + u ≤ 4 := by unfold fitP; rw [if_neg (by omega), if_neg (by omega), if_neg (by omega), if_neg (by omega), if_neg (by omega), if_neg (by omega), if_pos h]
theorem fp_h (h : k = 33 ∨ k = 34) : fitP k i o f s u ↔ (if i = 0 then 4 < o else if i = 1 then o = 1 else o = f - 4) := by unfold fitP; rw [if_neg (by omega), if_neg (by omega), if_neg (by omega), if_neg (by omega), if_neg (by omega), if_neg (by omega), if_neg (by omega)]
theorem fp_0 {f' s' : Int} : fitP k 0 o f s u ↔ fitP k 0 o f' s' u := by
  unfold fitP
  simp only [if_true, true_or]
end FP
theorem rs_c (a b p q : Int) : resS 11 a b p q = b := rfl
theorem rs_d {k : Int} (h : 12 ≤ k ∧ k ≤ 24) (a b p q : Int) : resS k a b p q = a := by unfold resS; rw [if_neg (by omega), if_pos h]
theorem rs_z {k : Int} (h : (4 ≤ k ∧ k ≤ 10) ∨ (25 ≤ k ∧ k ≤ 28)) (a b p q : Int) : resS k a b p q = 0 := by unfold resS; rw [if_neg (by omega), if_neg (by omega), if_neg (by omega), if_neg (by omega), if_neg (by omega), if_neg (by omega), if_neg (by omega)]
theorem rs_e (a b p q : Int) : resS 29 a b p q = a + b := rfl
theorem rs_f (a b p q : Int) : resS 30 a b p q = p - q + 1 := rfl
theorem rs_g {k : Int} (h : k = 31 ∨ k = 32) (a b p q : Int) : resS k a b p q = a + p := by rcases h with rfl | rfl <;> rfl
theorem rs_h (a b p q : Int) : resS 33 a b p q = a - 4 := rfl
theorem rs_i (a b p q : Int) : resS 34 a b p q = a := rfl
theorem k_cases {k : Int} (h : 4 ≤ k ∧ k ≤ 34) : (4 ≤ k ∧ k ≤ 8) ∨ (k = 9 ∨ k = 10) ∨ k = 11 ∨ (12 ≤ k ∧ k ≤ 24) ∨ (25 ≤ k ∧ k ≤ 28) ∨ k = 29 ∨ k = 30 ∨ (k = 31 ∨ k = 32) ∨ k = 33 ∨ k = 34 := by omega
theorem np_b {k : Int} (h : 4 ≤ k ∧ k ≤ 34) : 1 ≤ np k ∧ np k ≤ 3 := by
  unfold np
  rw [if_neg (by omega)]
  split
  · omega
  · split <;> omega
theorem np_29 : np 29 = 2 := rfl
theorem res_b {k a b p q : Int} (h : 4 ≤ k ∧ k ≤ 34) (ha : 0 ≤ a ∧ a ≤ 8) (hb : 0 ≤ b ∧ b ≤ 8) (hp : 0 ≤ p) (hq : 0 ≤ q) (h30 : k = 30 → q ≤ p) (f0 : fitP k 0 a a 0 p) (f1 : 2 ≤ np k → fitP k 1 b a b p) : 0 ≤ resS k a b p q ∧ resS k a b p q ≤ 8 := by
  rcases k_cases h with q | q | q | q | q | q | q | q | q | q
  · rw [rs_z (by omega)]; omega
  · rw [rs_z (by omega)]; omega
  · subst q; rw [rs_c]; omega
  · rw [rs_d q]; omega
  · rw [rs_z (by omega)]; omega
  · subst q
    have g0 := (fp_e rfl).mp f0
    have g1 := (fp_e rfl).mp (f1 (by decide))
    rw [rs_e]; omega
  · subst q
    have g0 := (fp_f rfl).mp f0
    have := h30 rfl
    rw [rs_f]; omega
  · have g0 := (fp_g q).mp f0
    rw [rs_g q]; omega
  · subst q
    have g0 := (fp_h (Or.inl rfl)).mp f0
    rw [if_pos rfl] at g0
    rw [rs_h]; omega
  · subst q; rw [rs_i]; omega
section ADV
variable {c : Nat → Int} {len j : Nat}
theorem adv {m : Nat} (h : m ≤ jE c len j - jB c len j) : jB c len j + m ≤ jB c len (j + 1) := by
  have := tB_s (c := c) (len := len) j
  have := tE_b (c := c) (len := len) (tB_le (c := c) (len := len) j)
  unfold jE jB at *
  omega
theorem adv_O {ch : Int} (h : jO c len j ch = true) : jB c len j + 1 ≤ jB c len (j + 1) := by
  have h := of_decide_eq_true h
  have := tE_b (c := c) (len := len) (tB_le (c := c) (len := len) j)
  apply adv
  unfold jE jB
  omega
theorem adv_W {w : Nat} (h : jW c len j = some w) : jB c len j + (mx_txt w).length ≤ jB c len (j + 1) := by
  have h1 := (wdx_iff (wdx_lt h)).mp h
  have h2 := congrArg List.length h1
  rw [tkL_len] at h2
  apply adv
  unfold jE jB
  omega
theorem adv_W1 {w : Nat} (h : jW c len j = some w) : jB c len j + 1 ≤ jB c len (j + 1) := by
  have := adv_W h
  have := txt_len ⟨w, wdx_lt h⟩
  dsimp only at this
  omega
theorem nm_l {b e : Nat} (h : nameA c b e ≠ 0) : (1 ≤ e - b ∧ e - b ≤ 4 ∧ wdx c b e = none) ∧ nameA c b e = beF c (e - b) b 0 := by
  unfold nameA at h ⊢
  by_cases q : 1 ≤ e - b ∧ e - b ≤ 4 ∧ wdx c b e = none
  · rw [if_pos q]; exact ⟨q, rfl⟩
  · rw [if_neg q] at h; exact absurd rfl h
theorem isLet_b {x : Int} (h : isLet x = true) : 65 ≤ x ∧ x ≤ 122 := by have := of_decide_eq_true h; omega
theorem beF_l : ∀ (d i : Nat) (v : Int), beF c d i v ≠ 0 → (∀ k, k < d → isLet (c (i + k)) = true) ∧ beF c d i v = ((List.range d).map (fun k => (c (i + k)).toNat)).foldl (fun (a : Int) (x : Nat) => a * 256 + (x : Int)) v := by
  intro d
  induction d with
  | zero => intro i v h; exact ⟨fun k hk => by omega, rfl⟩
  | succ d ih =>
    intro i v h
    unfold beF at h ⊢
    by_cases q : isLet (c i) = true
    · rw [if_pos q] at h ⊢
      have := ih _ _ h
      have b := isLet_b q
      refine ⟨fun k hk => ?_, ?_⟩
      · by_cases z : k = 0
        · rw [z]; exact q
        · have y := this.1 (k - 1) (by omega)
          rw [show i + 1 + (k - 1) = i + k by omega] at y
          exact y
      · rw [this.2, List.range_succ_eq_map, List.map_cons, List.foldl_cons, List.map_map]
        have e1 : ((c (i + 0)).toNat : Int) = c i := by
          rw [Nat.add_zero]
          omega
        rw [e1]
        congr 2
        funext k
        simp only [Function.comp]
        rw [show i + 1 + k = i + (k + 1) by omega]
    · rw [if_neg q] at h; exact absurd rfl h
theorem jN_l (h : jN c len j ≠ 0) : lets4 (jL c len j) ∧ jN c len j = beL (jL c len j) ∧ jB c len j + 1 ≤ jB c len (j + 1) ∧ jW c len j = none := by
  have a := nm_l h
  unfold jN at h
  rw [a.2] at h
  have b := beF_l _ _ _ h
  refine ⟨⟨?_, ?_, ?_⟩, ?_, ?_, a.1.2.2⟩
  · unfold jL; rw [tkL_len]; exact a.1.1
  · unfold jL; rw [tkL_len]; exact a.1.2.1
  · intro x hx
    unfold jL tkL at hx
    obtain ⟨k, hk, rfl⟩ := List.mem_map.mp hx
    have := isLet_b (b.1 k (List.mem_range.mp hk))
    omega
  · unfold jN
    rw [a.2, b.2]; rfl
  · apply adv; unfold jE jB; exact a.1.1
theorem numF_b : ∀ (d i : Nat) (v : Int), 0 ≤ v → numF c d i v ≠ -1 → 0 ≤ numF c d i v ∧ numF c d i v + 1 ≤ (v + 1) * 10 ^ d := by
  intro d
  induction d with
  | zero => intro i v hv _; show 0 ≤ v ∧ v + 1 ≤ (v + 1) * 1; omega
  | succ d ih =>
    intro i v hv h
    unfold numF at h ⊢
    by_cases q : isDig (c i) = true
    · rw [if_pos q] at h ⊢
      have b := of_decide_eq_true q
      have := ih _ _ (by omega) h
      refine ⟨this.1, Int.le_trans this.2 ?_⟩
      rw [Int.pow_succ, Int.mul_comm (10 ^ d) 10, ← Int.mul_assoc]
      apply Int.mul_le_mul_of_nonneg_right (by omega)
      exact Int.le_of_lt (Int.pow_pos (by decide))
    · rw [if_neg q] at h; exact absurd rfl h
theorem jU_l (h : jU c len j ≠ -1) : 0 ≤ jU c len j ∧ jU c len j ≤ 99 ∧ jB c len j + 1 ≤ jB c len (j + 1) := by
  unfold jU numA at h ⊢
  by_cases q : 1 ≤ tE c len (tB c len j) - tB c len j ∧ tE c len (tB c len j) - tB c len j ≤ 2 ∧ ¬ (tE c len (tB c len j) - tB c len j = 2 ∧ c (tB c len j) = 48)
  · rw [if_pos q] at h ⊢
    have b := numF_b _ _ _ (by decide) h
    have : tE c len (tB c len j) - tB c len j = 1 ∨ tE c len (tB c len j) - tB c len j = 2 := by omega
    refine ⟨b.1, ?_, adv (by unfold jE jB; omega)⟩
    rcases this with z | z
    · rw [z] at b ⊢; have := b.2; omega
    · rw [z] at b ⊢; have := b.2; omega
  · rw [if_neg q] at h; exact absurd rfl h
theorem bitO_l : ∀ (d i : Nat) (v : Int), 0 ≤ v → bitO c d i = true → 0 ≤ bitF c d i v ∧ bitF c d i v + 1 ≤ (v + 1) * 2 ^ d := by
  intro d
  induction d with
  | zero => intro i v hv _; show 0 ≤ v ∧ v + 1 ≤ (v + 1) * 1; omega
  | succ d ih =>
    intro i v hv h
    unfold bitO at h
    unfold bitF
    by_cases q : c i = 48 ∨ c i = 49
    · rw [if_pos q] at h
      have := ih (i + 1) (2 * v + c i - 48) (by omega) h
      refine ⟨this.1, Int.le_trans this.2 ?_⟩
      rw [Int.pow_succ, Int.mul_comm (2 ^ d) 2, ← Int.mul_assoc]
      apply Int.mul_le_mul_of_nonneg_right (by omega)
      exact Int.le_of_lt (Int.pow_pos (by decide))
    · rw [if_neg q] at h; cases h
theorem jD_l (h : 0 < jD c len j) : jD c len j ≤ 4 ∧ jE c len j - jB c len j = jD c len j + 2 ∧ jB c len j + 3 ≤ jB c len (j + 1) ∧ 0 ≤ jV c len j ∧ jV c len j < 2 ^ jD c len j ∧ jW c len j = none := by
  unfold jD widA at h
  by_cases q : 3 ≤ tE c len (tB c len j) - tB c len j ∧ tE c len (tB c len j) - tB c len j ≤ 6 ∧ c (tB c len j) = 35 ∧ c (tB c len j + 1) = 98 ∧ bitO c (tE c len (tB c len j) - tB c len j - 2) (tB c len j + 2) = true
  · have e : jD c len j = tE c len (tB c len j) - tB c len j - 2 := by unfold jD widA; rw [if_pos q]
    have b := bitO_l _ _ 0 (by decide) q.2.2.2.2
    have ev : jV c len j = bitF c (tE c len (tB c len j) - tB c len j - 2) (tB c len j + 2) 0 := by
      unfold jV
      unfold jD at e
      rw [e]
      congr 1
      omega
    rw [e, ev]
    refine ⟨by omega, by unfold jE jB; omega, adv (by unfold jE jB; omega), b.1, by have := b.2; omega, ?_⟩
    cases w : jW c len j with
    | none => rfl
    | some i =>
      have h1 := (wdx_iff (wdx_lt w)).mp w
      have h2 := (tkL_eq.mp h1).2 0 (by omega)
      rw [Nat.add_zero, q.2.2.1] at h2
      have : ∀ i : Fin 42, (mx_txt i.val).getD 0 0 ≠ 35 := by decide +kernel
      exact absurd h2.symm (this ⟨i, wdx_lt w⟩)
  · rw [if_neg q] at h; omega
end ADV
