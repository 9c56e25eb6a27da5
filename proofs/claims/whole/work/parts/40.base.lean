/-! whole numbers in the machine's ints -/
def iI (a : Int) : Int32 := Int32.ofInt a
def bI (b : Bool) : Int32 := if b = true then 1 else 0
abbrev i32 (a : Int) : Prop := -2147483648 ≤ a ∧ a < 2147483648
theorem ii_ti {a : Int} (h : -2147483648 ≤ a ∧ a < 2147483648) : (iI a).toInt = a := Int32.toInt_ofInt_of_le h.1 h.2
theorem ii_of (x : Int32) : iI x.toInt = x := Int32.ofInt_toInt x
theorem ii_ex (x : Int32) : ∃ a : Int, x = iI a ∧ -2147483648 ≤ a ∧ a < 2147483648 := ⟨x.toInt, (ii_of x).symm, Int32.le_toInt x, Int32.toInt_lt x⟩
theorem ii_lit (n : Nat) : (OfNat.ofNat n : Int32) = iI (OfNat.ofNat n) := Int32.toBitVec_inj.1 (by rfl)
theorem ii_add (a b : Int) : iI a + iI b = iI (a + b) := (Int32.ofInt_add a b).symm
theorem ii_sub (a b : Int) : iI a - iI b = iI (a - b) := (Int32.ofInt_sub a b).symm
theorem ii_mul (a b : Int) : iI a * iI b = iI (a * b) := (Int32.ofInt_mul a b).symm
theorem ii_neg (a : Int) : -(iI a) = iI (-a) := (Int32.ofInt_neg a).symm
theorem ii_lt_t {a b : Int} (h : a < b ∧ -2147483648 ≤ a ∧ b < 2147483648) : (iI a < iI b) = True := eq_true (Int32.lt_iff_toInt_lt.mpr (by rw [ii_ti (by omega), ii_ti (by omega)]; exact h.1))
theorem ii_lt_f {a b : Int} (h : b ≤ a ∧ -2147483648 ≤ b ∧ a < 2147483648) : (iI a < iI b) = False := eq_false (fun q => by have := Int32.lt_iff_toInt_lt.mp q; rw [ii_ti (by omega), ii_ti (by omega)] at this; omega)
theorem ii_le_t {a b : Int} (h : a ≤ b ∧ -2147483648 ≤ a ∧ b < 2147483648) : (iI a ≤ iI b) = True := eq_true (Int32.le_iff_toInt_le.mpr (by rw [ii_ti (by omega), ii_ti (by omega)]; exact h.1))
theorem ii_le_f {a b : Int} (h : b < a ∧ -2147483648 ≤ b ∧ a < 2147483648) : (iI a ≤ iI b) = False := eq_false (fun q => by have := Int32.le_iff_toInt_le.mp q; rw [ii_ti (by omega), ii_ti (by omega)] at this; omega)
theorem ii_eq {a b : Int} (ha : -2147483648 ≤ a ∧ a < 2147483648) (hb : -2147483648 ≤ b ∧ b < 2147483648) : iI a = iI b ↔ a = b := ⟨fun q => by have := congrArg Int32.toInt q; rw [ii_ti ha, ii_ti hb] at this; exact this, fun q => by rw [q]⟩
theorem ii_eq_t {a b : Int} (h : a = b) : (iI a = iI b) = True := by rw [h]; exact eq_self _
theorem ii_eq_f {a b : Int} (h : a ≠ b ∧ -2147483648 ≤ a ∧ a < 2147483648 ∧ -2147483648 ≤ b ∧ b < 2147483648) : (iI a = iI b) = False := eq_false (fun q => h.1 ((ii_eq (by omega) (by omega)).mp q))
theorem ii_lt {a b : Int} (h : -2147483648 ≤ a ∧ a < 2147483648 ∧ -2147483648 ≤ b ∧ b < 2147483648) : iI a < iI b ↔ a < b := by rw [Int32.lt_iff_toInt_lt, ii_ti (by omega), ii_ti (by omega)]
theorem ii_le {a b : Int} (h : -2147483648 ≤ a ∧ a < 2147483648 ∧ -2147483648 ≤ b ∧ b < 2147483648) : iI a ≤ iI b ↔ a ≤ b := by rw [Int32.le_iff_toInt_le, ii_ti (by omega), ii_ti (by omega)]
theorem ii_cl {a : Int} (h : 0 ≤ a ∧ a < 2147483648) : (iI a).toNatClampNeg = a.toNat := Int32.toNatClampNeg_ofInt_of_le (by omega) h.2
theorem ii_in {a : Int} {n : Nat} (h : 0 ≤ a ∧ a < 2147483648 ∧ a < (n : Int)) : (mx_in (iI a) n = true) = True := eq_true (by unfold mx_in; rw [ii_ti (by omega)]; exact decide_eq_true (by omega))
theorem ii_sh {k : Int} (h : 0 ≤ k ∧ k < 32) : ((iI k &&& iI 31).toBitVec.smod 32).toNat = k.toNat := by
  have : ∀ k : Fin 32, ((iI ((k.val : Nat) : Int) &&& iI 31).toBitVec.smod 32).toNat = k.val := by decide
  have q := this ⟨k.toNat, by omega⟩
  dsimp only at q
  rw [Int.toNat_of_nonneg h.1] at q
  exact q
theorem ii_shr {a k : Int} (h : (0 ≤ k ∧ k < 32) ∧ -2147483648 ≤ a ∧ a < 2147483648) : iI a >>> (iI k &&& iI 31) = iI (a / 2 ^ k.toNat) := by
  apply Int32.toInt_inj.mp
  have e : (iI a >>> (iI k &&& iI 31)).toInt = (iI a).toInt >>> ((iI k &&& iI 31).toBitVec.smod 32).toNat := BitVec.toInt_sshiftRight'
  rw [e, ii_sh h.1, ii_ti h.2, Int.shiftRight_eq_div_pow]
  have hp : (0 : Int) < 2 ^ k.toNat := Int.pow_pos (by decide)
  rw [ii_ti]
  · push_cast; rfl
  · constructor
    · rw [Int.le_ediv_iff_mul_le hp]
      have : (1 : Int) ≤ 2 ^ k.toNat := hp
      have := Int.mul_le_mul_of_nonneg_left this (by decide : (0 : Int) ≤ 2147483648)
      omega
    · rw [Int.ediv_lt_iff_lt_mul hp]
      have : (1 : Int) ≤ 2 ^ k.toNat := hp
      have := Int.mul_le_mul_of_nonneg_left this (by decide : (0 : Int) ≤ 2147483648)
      omega
theorem ii_shl {a k : Int} (h : 0 ≤ k ∧ k < 32) : iI a <<< (iI k &&& iI 31) = iI (a * 2 ^ k.toNat) := by
  rw [← ii_mul]
  have e : ∀ (x s : Int32), x <<< s = x * Int32.ofBitVec (BitVec.twoPow 32 (s.toBitVec.smod 32).toNat) := by
    intro x s
    apply Int32.toBitVec_inj.mp
    show x.toBitVec <<< (s.toBitVec.smod 32) = x.toBitVec * _
    rw [BitVec.shiftLeft_eq', BitVec.shiftLeft_eq_mul_twoPow]; rfl
  rw [e, ii_sh h]
  have : ∀ k : Fin 32, Int32.ofBitVec (BitVec.twoPow 32 k.val) = iI (2 ^ k.val) := by decide
  rw [this ⟨k.toNat, by omega⟩]
theorem ii_mask {a : Int} {m : Int32} (k : Nat) (hk : k ≤ 31) (hm : m.toBitVec.toNat = 2 ^ k - 1) : iI a &&& m = iI (a % 2 ^ k) := by
  rw [pk_and _ k hm]
  have e : (iI a).toBitVec.toNat = (a % 4294967296).toNat := by
    show (BitVec.ofInt 32 a).toNat = _
    rw [BitVec.toNat_ofInt]; rfl
  rw [e]
  have e2 : ((a % 4294967296).toNat % 2 ^ k : Nat) = (a % 2 ^ k).toNat := by
    have h1 : (((a % 4294967296).toNat % 2 ^ k : Nat) : Int) = a % 2 ^ k := by
      push_cast
      rw [Int.toNat_of_nonneg (by omega)]
      have hd : (2 ^ k : Int) ∣ 4294967296 := ⟨2 ^ (32 - k), by rw [← Int.pow_add]; rw [show k + (32 - k) = 32 by omega]; rfl⟩
      exact Int.emod_emod_of_dvd _ hd
    omega
  rw [e2]
  have hp : (0 : Int) < 2 ^ k := Int.pow_pos (by decide)
  have h0 : 0 ≤ a % 2 ^ k := Int.emod_nonneg _ (by omega)
  apply Int32.toBitVec_inj.mp
  show BitVec.ofNat 32 _ = BitVec.ofInt 32 _
  rw [← BitVec.ofInt_natCast, Int.toNat_of_nonneg h0]
theorem ii_and1 (a : Int) : iI a &&& iI 1 = iI (a % 2) := ii_mask 1 (by decide) (by decide)
theorem ii_and255 (a : Int) : iI a &&& iI 255 = iI (a % 256) := ii_mask 8 (by decide) (by decide)
theorem ii_nat (n : Nat) : (iI (n : Int)).toBitVec = BitVec.ofNat 32 n := BitVec.ofInt_natCast 32 n
theorem ii_xorN (m n : Nat) : iI (m : Int) ^^^ iI (n : Int) = iI ((m ^^^ n : Nat) : Int) := by
  apply Int32.toBitVec_inj.mp
  rw [Int32.toBitVec_xor, ii_nat, ii_nat, ii_nat, BitVec.ofNat_xor]
theorem ii_orN (m n : Nat) : iI (m : Int) ||| iI (n : Int) = iI ((m ||| n : Nat) : Int) := by
  apply Int32.toBitVec_inj.mp
  rw [Int32.toBitVec_or, ii_nat, ii_nat, ii_nat, BitVec.ofNat_or]
theorem ii_andN (m n : Nat) : iI (m : Int) &&& iI (n : Int) = iI ((m &&& n : Nat) : Int) := by
  apply Int32.toBitVec_inj.mp
  rw [Int32.toBitVec_and, ii_nat, ii_nat, ii_nat, BitVec.ofNat_and]
theorem ii_char {c : Int} (h : 0 ≤ c ∧ c < 65536) : vp_nar .char (((iI c).toUInt32 % 65536).toInt32) = iI c := by
  rw [pk_vc, pk_char]
  have e : (iI c).toBitVec.toNat = c.toNat := by
    show (BitVec.ofInt 32 c).toNat = _
    rw [BitVec.toNat_ofInt]
    show (c % 4294967296).toNat = c.toNat
    omega
  rw [e]
  apply Int32.toBitVec_inj.mp
  show BitVec.ofNat 32 _ = BitVec.ofInt 32 _
  rw [← BitVec.ofInt_natCast]
  congr 1
  omega
theorem bI_t : bI true = 1 := rfl
theorem bI_f : bI false = 0 := rfl
theorem bI_n (b : Bool) : (narrow .boolean (.int (bI b)) = .int (bI b)) = True := by cases b <;> exact eq_true rfl
theorem bI_0 (b : Bool) : (bI b = 0) = (b = false) := by cases b <;> decide
theorem bI_1 (b : Bool) : (bI b = 1) = (b = true) := by cases b <;> decide
theorem bI_i0 (b : Bool) : (bI b = iI 0) = (b = false) := bI_0 b
theorem bI_i1 (b : Bool) : (bI b = iI 1) = (b = true) := bI_1 b
theorem bI_ft : bI true = iI 1 := rfl
theorem bI_ff : bI false = iI 0 := rfl
theorem bI_if (c : Prop) [Decidable c] : (if c then (1 : Int32) else 0) = bI (decide c) := by by_cases h : c <;> simp [h, bI]
theorem nb_0 : (narrow .boolean (.int (iI 0)) = .int (iI 0)) = True := eq_true rfl
theorem nb_1 : (narrow .boolean (.int (iI 1)) = .int (iI 1)) = True := eq_true rfl
theorem mu_s {α : Type} (f : Nat → Nat → α) (a k : Nat) (x : α) : mx_u f a k x a k = x := if_pos ⟨rfl, rfl⟩
theorem mu_c {α : Type} (f : Nat → Nat → α) {a b : Nat} (k : Nat) (x : α) (j : Nat) (h : b ≠ a) : mx_u f a k x b j = f b j := if_neg (fun q => h q.1)
theorem mu_k {α : Type} (f : Nat → Nat → α) {a b k j : Nat} (x : α) (h : j ≠ k) : mx_u f a k x b j = f b j := if_neg (fun q => h q.2)
theorem mu_f {α : Type} (f : Nat → Nat → α) {a b : Nat} (k : Nat) (x : α) (h : b ≠ a) : mx_u f a k x b = f b := by funext j; exact if_neg (fun q => h q.1)
theorem mu_e {α : Type} (f : Nat → Nat → α) {a b k j : Nat} (x : α) (h : b = a ∧ j = k) : mx_u f a k x b j = x := if_pos h
theorem tn30 (t : Nat) : (3 * (t : Int) + 0).toNat = 3 * t := by omega
theorem tn31 (t : Nat) : (3 * (t : Int) + 1).toNat = 3 * t + 1 := by omega
theorem tn32 (t : Nat) : (3 * (t : Int) + 2).toNat = 3 * t + 2 := by omega
theorem tn20 (t : Nat) : (2 * (t : Int)).toNat = 2 * t := by omega
theorem tn21 (t : Nat) : (2 * (t : Int) + 1).toNat = 2 * t + 1 := by omega
