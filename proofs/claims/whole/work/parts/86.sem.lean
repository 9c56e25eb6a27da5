/-! what terms are worth -/
def sgn (x w : Nat) : Int := if x < 2 ^ (w - 1) then (x : Int) else (x : Int) - 2 ^ w
def b01 (p : Prop) [Decidable p] : Nat := if p then 1 else 0
/-- the value of an operator: kind, width of the result, sort of the first part, width of the second, second number, values -/
def opv (k : Int) (s w wy q x y z : Nat) : Nat :=
  if k = 1 then 1 else if k = 2 then 0 else if k = 3 then q
  else if k = 4 then b01 (x = 0) else if k = 5 then b01 (x = 1 ∧ y = 1) else if k = 6 then b01 (x = 1 ∨ y = 1) else if k = 7 then b01 (x ≠ y) else if k = 8 then b01 (x = 0 ∨ y = 1)
  else if k = 9 then b01 (x = y) else if k = 10 then b01 (x ≠ y) else if k = 11 then (if x = 1 then y else z)
  else if k = 12 then 2 ^ s - 1 - x else if k = 13 then (2 ^ s - x) % 2 ^ s
  else if k = 14 then x &&& y else if k = 15 then x ||| y else if k = 16 then x ^^^ y
  else if k = 17 then (x + y) % 2 ^ s else if k = 18 then (x + 2 ^ s - y) % 2 ^ s else if k = 19 then x * y % 2 ^ s
  else if k = 20 then (if y = 0 then 2 ^ s - 1 else x / y) else if k = 21 then (if y = 0 then x else x % y)
  else if k = 22 then x * 2 ^ y % 2 ^ s else if k = 23 then x / 2 ^ y else if k = 24 then (sgn x s / 2 ^ y % 2 ^ s).toNat
  else if k = 25 then b01 (x < y) else if k = 26 then b01 (x ≤ y) else if k = 27 then b01 (sgn x w < sgn y w) else if k = 28 then b01 (sgn x w ≤ sgn y w)
  else if k = 29 then x * 2 ^ wy + y else if k = 30 then x / 2 ^ q % 2 ^ s else if k = 31 then x else if k = 32 then (sgn x w % 2 ^ s).toNat
  else if k = 33 then (if y = 0 then x % 2 ^ (w - 4) else x / 2 ^ (w - 4))
  else (if y = 0 then z else x % 2 ^ (w - 4)) + (if y = 1 then z else x / 2 ^ (w - 4)) * 2 ^ (w - 4)
theorem ii_msk {a : Int} {k : Nat} (hk : k ≤ 30) : iI a &&& iI ((2 : Int) ^ k - 1) = iI (a % 2 ^ k) := by
  refine ii_mask k (by omega) ?_
  have : ∀ k : Fin 31, (iI ((2 : Int) ^ k.val - 1)).toBitVec.toNat = 2 ^ k.val - 1 := by decide
  exact this ⟨k, by omega⟩
theorem ii_1l {k : Int} (h : 0 ≤ k ∧ k < 32) : iI 1 <<< (iI k &&& iI 31) = iI (2 ^ k.toNat) := by rw [ii_shl h, Int.one_mul]
theorem X11_sign_c {x w : Nat} (h : mx_H) (hw : 1 ≤ w ∧ w ≤ 8) (hx : x < 65536) : mx_C mm_X11_sign [.int (iI ((x : Int))), .int (iI ((w : Int)))] h = some (some (.int (iI (sgn x w))), h) := by
  have e1 : (1 : Int32) <<< ((iI (w : Int) - 1) &&& 31) = iI (2 ^ (w - 1)) := by
    rw [show (1 : Int32) = iI 1 from rfl, show (31 : Int32) = iI 31 from rfl, ii_sub, ii_1l (by omega)]
    congr 2
    omega
  have e2 : (1 : Int32) <<< (iI (w : Int) &&& 31) = iI (2 ^ w) := by
    rw [show (1 : Int32) = iI 1 from rfl, show (31 : Int32) = iI 31 from rfl, ii_1l (by omega), Int.toNat_natCast]
  have p : (2 : Int) ^ (w - 1) ≤ 2 ^ 7 := by
    have : w - 1 = 0 ∨ w - 1 = 1 ∨ w - 1 = 2 ∨ w - 1 = 3 ∨ w - 1 = 4 ∨ w - 1 = 5 ∨ w - 1 = 6 ∨ w - 1 = 7 := by omega
    rcases this with z | z | z | z | z | z | z | z <;> (rw [z]; decide)
  have p0 : (0 : Int) < 2 ^ (w - 1) := Int.pow_pos (by decide)
  rw [c_X11_sign, e_X11_sign_0, e1, e2]
  unfold sgn
  by_cases q : x < 2 ^ (w - 1)
  · have q' : (x : Int) < 2 ^ (w - 1) := by exact_mod_cast q
    rw [if_pos q, if_pos ((ii_lt (by omega)).mpr q'), e_X11_sign_18]
  · have q' : ¬ (x : Int) < 2 ^ (w - 1) := by intro z; exact q (by exact_mod_cast z)
    rw [if_neg q, if_neg (fun z => q' ((ii_lt (by omega)).mp z)), e_X11_sign_18, ii_sub]
theorem p2 {s : Nat} (h : s ≤ 8) : (0 : Int) < 2 ^ s ∧ (2 : Int) ^ s ≤ 256 ∧ ((2 ^ s : Nat) : Int) = 2 ^ s := by
  refine ⟨Int.pow_pos (by decide), ?_, by push_cast; rfl⟩
  have : s = 0 ∨ s = 1 ∨ s = 2 ∨ s = 3 ∨ s = 4 ∨ s = 5 ∨ s = 6 ∨ s = 7 ∨ s = 8 := by omega
  rcases this with z | z | z | z | z | z | z | z | z <;> (rw [z]; decide)
theorem ii_all {s : Nat} (hs : s ≤ 8) : (1 : Int32) <<< (iI (s : Int) &&& 31) - 1 = iI (2 ^ s - 1) := by
  rw [show (1 : Int32) = iI 1 from rfl, show (31 : Int32) = iI 31 from rfl, ii_1l (by omega), Int.toNat_natCast, ii_sub]
theorem ii_div {x y : Nat} (hx : x < 65536) (hy : y < 65536) : iI (x : Int) / iI (y : Int) = iI ((x / y : Nat) : Int) := by
  apply Int32.toInt_inj.mp
  have ne : iI (x : Int) ≠ Int32.minValue := by
    intro z
    have := congrArg Int32.toInt z
    rw [ii_ti (by omega)] at this
    have e : (Int32.minValue).toInt = -2147483648 := by decide
    rw [e] at this
    omega
  have dv : (iI (x : Int) / iI (y : Int)).toInt = (iI (x : Int)).toInt.tdiv (iI (y : Int)).toInt := by
    apply Int32.toInt_div_of_ne_left
    exact ne
  obtain ⟨d, hd, hd2⟩ : ∃ d : Nat, x / y = d ∧ d ≤ x := ⟨_, rfl, Nat.div_le_self x y⟩
  rw [dv, ii_ti (by omega), ii_ti (by omega), hd, ii_ti (by omega), ← hd]
  rw [Int.tdiv_eq_ediv_of_nonneg (by omega)]
  norm_cast
theorem X11_onWords_c {k : Int} {x y s wy q z : Nat} (h : mx_H) (hk : 14 ≤ k ∧ k ≤ 24) (hs : 1 ≤ s ∧ s ≤ 4) (hx : x < 2 ^ s) (hy : y < 2 ^ s) : mx_C mm_X11_onWords [.int (iI (k)), .int (iI ((x : Int))), .int (iI ((y : Int))), .int (iI ((s : Int)))] h = some (some (.int (iI (((opv k s s wy q x y z : Nat) : Int)))), h) := by
  obtain ⟨a1, a2, a3⟩ := p2 (s := s) (by omega)
  have a4 : 2 ^ s ≤ 16 := by
    have : s = 1 ∨ s = 2 ∨ s = 3 ∨ s = 4 := by omega
    rcases this with z | z | z | z <;> (rw [z]; decide)
  rw [c_X11_onWords, e_X11_onWords_0, ii_all (by omega)]
  have kk : k = 14 ∨ k = 15 ∨ k = 16 ∨ k = 17 ∨ k = 18 ∨ k = 19 ∨ k = 20 ∨ k = 21 ∨ k = 22 ∨ k = 23 ∨ k = 24 := by omega
  rcases kk with rfl | rfl | rfl | rfl | rfl | rfl | rfl | rfl | rfl | rfl | rfl
  · refine Eq.trans (e_X11_onWords_8_14 ..) ?_
    rw [e_X11_onWords_64, ii_andN]
    rfl
  · refine Eq.trans (e_X11_onWords_8_15 ..) ?_
    rw [e_X11_onWords_68, ii_orN]
    rfl
  · refine Eq.trans (e_X11_onWords_8_16 ..) ?_
    rw [e_X11_onWords_72, ii_xorN]
    rfl
  · refine Eq.trans (e_X11_onWords_8_17 ..) ?_
    rw [e_X11_onWords_76, ii_add, ii_msk (by omega)]
    show _ = some (some (Value.int (iI (((x + y) % 2 ^ s : Nat) : Int))), h)
    push_cast
    rfl
  · refine Eq.trans (e_X11_onWords_8_18 ..) ?_
    rw [e_X11_onWords_83, ii_sub, ii_msk (by omega)]
    show _ = some (some (Value.int (iI (((x + 2 ^ s - y) % 2 ^ s : Nat) : Int))), h)
    have : ((x : Int) - y) % 2 ^ s = (((x + 2 ^ s - y) % 2 ^ s : Nat) : Int) := by
      rw [Int.natCast_emod, a3, show ((x + 2 ^ s - y : Nat) : Int) = ((x : Int) - y) + 2 ^ s by omega, Int.add_emod_right]
    rw [this]
  · refine Eq.trans (e_X11_onWords_8_19 ..) ?_
    rw [e_X11_onWords_90, ii_mul, ii_msk (by omega)]
    show _ = some (some (Value.int (iI ((x * y % 2 ^ s : Nat) : Int))), h)
    push_cast
    rfl
  · refine Eq.trans (e_X11_onWords_8_20 ..) ?_
    rw [e_X11_onWords_97]
    show _ = some (some (Value.int (iI (((if y = 0 then 2 ^ s - 1 else x / y) : Nat) : Int))), h)
    by_cases q : y = 0
    · rw [q, if_pos rfl, if_pos (show iI ((0 : Nat) : Int) = 0 from rfl), e_X11_onWords_109, show ((2 ^ s - 1 : Nat) : Int) = 2 ^ s - 1 by omega]
    · have q' : ¬ iI (y : Int) = 0 := fun z => q (by have := (ii_eq (b := 0) (by omega) (by decide)).mp z; omega)
      rw [if_neg q, if_neg q', if_neg q', e_X11_onWords_109, ii_div (by omega) (by omega)]
  · refine Eq.trans (e_X11_onWords_8_21 ..) ?_
    rw [e_X11_onWords_110]
    show _ = some (some (Value.int (iI (((if y = 0 then x else x % y) : Nat) : Int))), h)
    by_cases q : y = 0
    · rw [q, if_pos rfl, if_pos (show iI ((0 : Nat) : Int) = 0 from rfl), e_X11_onWords_121]
    · have q' : ¬ iI (y : Int) = 0 := fun z => q (by have := (ii_eq (b := 0) (by omega) (by decide)).mp z; omega)
      rw [if_neg q, if_neg q', if_neg q', e_X11_onWords_121, ii_div (by omega) (by omega), ii_mul, ii_sub]
      have : (x : Int) - ((x / y : Nat) : Int) * (y : Int) = ((x % y : Nat) : Int) := by
        have := Nat.div_add_mod x y
        have e : ((y * (x / y) + x % y : Nat) : Int) = (x : Int) := by rw [this]
        push_cast at e ⊢
        rw [Int.mul_comm]
        omega
      rw [this]
  · refine Eq.trans (e_X11_onWords_8_22 ..) ?_
    rw [e_X11_onWords_122, show (31 : Int32) = iI 31 from rfl, ii_shl (by omega), ii_msk (by omega), Int.toNat_natCast]
    show _ = some (some (Value.int (iI ((x * 2 ^ y % 2 ^ s : Nat) : Int))), h)
    push_cast
    rfl
  · refine Eq.trans (e_X11_onWords_8_23 ..) ?_
    rw [e_X11_onWords_129, show (31 : Int32) = iI 31 from rfl, ii_shr (by omega), Int.toNat_natCast]
    show _ = some (some (Value.int (iI ((x / 2 ^ y : Nat) : Int))), h)
    push_cast
    rfl
  · refine Eq.trans (e_X11_onWords_8_d (hx := by decide) ..) ?_
    have sb : -256 ≤ sgn x s ∧ sgn x s < 65536 := by unfold sgn; split <;> omega
    rw [e_X11_onWords_133, X11_sign_c h (by omega) (by omega)]
    refine Eq.trans (e_X11_onWords_138 ..) ?_
    rw [show (31 : Int32) = iI 31 from rfl, ii_shr (by omega), ii_msk (by omega), Int.toNat_natCast]
    show _ = some (some (Value.int (iI (((sgn x s / 2 ^ y % 2 ^ s).toNat : Nat) : Int))), h)
    rw [Int.toNat_of_nonneg (Int.emod_nonneg _ (by omega))]
