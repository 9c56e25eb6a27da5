theorem e_X1_calculate_0 (v1 : Option Nat) (v2 : Int32) (v3 : Int32) (h : mx_H)  : mx_D (13, mm_X1_calculate, 0, [.ref 28, mx_rf v1, .int v2, .int v3, mx_junk, mx_junk], []) h = (mx_C mm_X1_widthOf [.ref 28, .int v2] h).bind (fun o => mx_D (13, mm_X1_calculate, 5, [.ref 28, mx_rf v1, .int v2, .int v3, mx_junk, mx_junk], o.1.toList ++ []) o.2) := by
  refine Eq.trans (q_aload_n dX1_calculate_0 rfl rfl) ?_
  refine Eq.trans (q_iload_n dX1_calculate_1 rfl) ?_
  exact q_call0 (as := [.int v2]) (rest := []) dX1_calculate_2 mx_inv_1_110 rfl rfl rfl ⟨Nat.le_of_ble_eq_true rfl, Nat.le_of_ble_eq_true rfl, (Nat.le_of_ble_eq_true rfl)⟩
theorem c_X1_calculate (v1 : Option Nat) (v2 : Int32) (v3 : Int32) (h : mx_H) : mx_C mm_X1_calculate [.ref 28, mx_rf v1, .int v2, .int v3] h = mx_D (13, mm_X1_calculate, 0, [.ref 28, mx_rf v1, .int v2, .int v3, mx_junk, mx_junk], []) h := (by cases v1 <;> exact rfl)
theorem e_X1_calculate_5 (v1 : Nat) (hw_v1 : 1000 ≤ v1 ∧ v1 < 1042) (v2 : Int32) (v3 : Int32) (s0 : Int32) (h : mx_H)  : mx_D (13, mm_X1_calculate, 5, [.ref 28, .ref v1, .int v2, .int v3, mx_junk, mx_junk], [.int s0]) h = if mx_in (Int32.ofNat (v1 - 1000)) 42 = true then mx_D (13, mm_X1_calculate, 19, [.ref 28, .ref v1, .int v2, .int v3, .int (if 4 < s0 then 4 else s0), mx_junk], [.int (mx_swm ((Int32.ofNat (v1 - 1000)).toNatClampNeg))]) h else none := by
  refine Eq.trans (q_iconst (x := 4) dX1_calculate_5 rfl) ?_
  refine Eq.trans (q_biS dX1_calculate_6 mx_inv_1_161 (by decide)) ?_
  refine Eq.trans (q_istore (L' := [.ref 28, .ref v1, .int v2, .int v3, .int (if 4 < s0 then 4 else s0), mx_junk]) dX1_calculate_9 (Nat.le_of_ble_eq_true rfl) rfl) ?_
  refine Eq.trans (q_gets dX1_calculate_11 mx_sta_1_116) ?_
  refine Eq.trans (q_aload_n dX1_calculate_14 rfl rfl) ?_
  refine Eq.trans (q_ord dX1_calculate_15 mx_inv_1_121 hw_v1 (by simp)) ?_
  refine Eq.trans (q_ld (w := 0) (by decide) dX1_calculate_18 (mx_ld_2001)) (q_ite ?_)
  rfl
theorem e_X1_calculate_19_8 (v1 : Option Nat) (v2 : Int32) (v3 : Int32) (v4 : Int32) (h : mx_H) : mx_D (13, mm_X1_calculate, 19, [.ref 28, mx_rf v1, .int v2, .int v3, .int v4, mx_junk], [.int 8]) h = mx_D (13, mm_X1_calculate, 68, [.ref 28, mx_rf v1, .int v2, .int v3, .int v4, mx_junk], []) h := q_tsw 68 dX1_calculate_19 rfl rfl
theorem e_X1_calculate_19_9 (v1 : Option Nat) (v2 : Int32) (v3 : Int32) (v4 : Int32) (h : mx_H) : mx_D (13, mm_X1_calculate, 19, [.ref 28, mx_rf v1, .int v2, .int v3, .int v4, mx_junk], [.int 9]) h = mx_D (13, mm_X1_calculate, 94, [.ref 28, mx_rf v1, .int v2, .int v3, .int v4, mx_junk], []) h := q_tsw 94 dX1_calculate_19 rfl rfl
theorem e_X1_calculate_19_10 (v1 : Option Nat) (v2 : Int32) (v3 : Int32) (v4 : Int32) (h : mx_H) : mx_D (13, mm_X1_calculate, 19, [.ref 28, mx_rf v1, .int v2, .int v3, .int v4, mx_junk], [.int 10]) h = mx_D (13, mm_X1_calculate, 120, [.ref 28, mx_rf v1, .int v2, .int v3, .int v4, mx_junk], []) h := q_tsw 120 dX1_calculate_19 rfl rfl
theorem e_X1_calculate_19_11 (v1 : Option Nat) (v2 : Int32) (v3 : Int32) (v4 : Int32) (h : mx_H) : mx_D (13, mm_X1_calculate, 19, [.ref 28, mx_rf v1, .int v2, .int v3, .int v4, mx_junk], [.int 11]) h = mx_D (13, mm_X1_calculate, 146, [.ref 28, mx_rf v1, .int v2, .int v3, .int v4, mx_junk], []) h := q_tsw 146 dX1_calculate_19 rfl rfl
theorem e_X1_calculate_19_12 (v1 : Option Nat) (v2 : Int32) (v3 : Int32) (v4 : Int32) (h : mx_H) : mx_D (13, mm_X1_calculate, 19, [.ref 28, mx_rf v1, .int v2, .int v3, .int v4, mx_junk], [.int 12]) h = mx_D (13, mm_X1_calculate, 157, [.ref 28, mx_rf v1, .int v2, .int v3, .int v4, mx_junk], []) h := q_tsw 157 dX1_calculate_19 rfl rfl
theorem e_X1_calculate_19_13 (v1 : Option Nat) (v2 : Int32) (v3 : Int32) (v4 : Int32) (h : mx_H) : mx_D (13, mm_X1_calculate, 19, [.ref 28, mx_rf v1, .int v2, .int v3, .int v4, mx_junk], [.int 13]) h = mx_D (13, mm_X1_calculate, 157, [.ref 28, mx_rf v1, .int v2, .int v3, .int v4, mx_junk], []) h := q_tsw 157 dX1_calculate_19 rfl rfl
theorem e_X1_calculate_19_14 (v1 : Option Nat) (v2 : Int32) (v3 : Int32) (v4 : Int32) (h : mx_H) : mx_D (13, mm_X1_calculate, 19, [.ref 28, mx_rf v1, .int v2, .int v3, .int v4, mx_junk], [.int 14]) h = mx_D (13, mm_X1_calculate, 167, [.ref 28, mx_rf v1, .int v2, .int v3, .int v4, mx_junk], []) h := q_tsw 167 dX1_calculate_19 rfl rfl
theorem e_X1_calculate_19_15 (v1 : Option Nat) (v2 : Int32) (v3 : Int32) (v4 : Int32) (h : mx_H) : mx_D (13, mm_X1_calculate, 19, [.ref 28, mx_rf v1, .int v2, .int v3, .int v4, mx_junk], [.int 15]) h = mx_D (13, mm_X1_calculate, 167, [.ref 28, mx_rf v1, .int v2, .int v3, .int v4, mx_junk], []) h := q_tsw 167 dX1_calculate_19 rfl rfl
theorem e_X1_calculate_19_16 (v1 : Option Nat) (v2 : Int32) (v3 : Int32) (v4 : Int32) (h : mx_H) : mx_D (13, mm_X1_calculate, 19, [.ref 28, mx_rf v1, .int v2, .int v3, .int v4, mx_junk], [.int 16]) h = mx_D (13, mm_X1_calculate, 167, [.ref 28, mx_rf v1, .int v2, .int v3, .int v4, mx_junk], []) h := q_tsw 167 dX1_calculate_19 rfl rfl
theorem e_X1_calculate_19_d (v1 : Option Nat) (v2 : Int32) (v3 : Int32) (v4 : Int32) (x : Int32) (hx : x.toInt < 8 ∨ 16 < x.toInt) (h : mx_H) : mx_D (13, mm_X1_calculate, 19, [.ref 28, mx_rf v1, .int v2, .int v3, .int v4, mx_junk], [.int x]) h = mx_D (13, mm_X1_calculate, 179, [.ref 28, mx_rf v1, .int v2, .int v3, .int v4, mx_junk], []) h := q_tsw 179 dX1_calculate_19 (if_pos hx) rfl
theorem e_X1_calculate_68 (v1 : Option Nat) (v2 : Int32) (v3 : Int32) (v4 : Int32) (h : mx_H)  : mx_D (13, mm_X1_calculate, 68, [.ref 28, mx_rf v1, .int v2, .int v3, .int v4, mx_junk], []) h = (mx_C mm_X1_loadLeft [.ref 28, .int ((-1)), .int v4] h).bind (fun o => mx_D (13, mm_X1_calculate, 75, [.ref 28, mx_rf v1, .int v2, .int v3, .int v4, mx_junk], o.1.toList ++ []) o.2) := by
  refine Eq.trans (q_aload_n dX1_calculate_68 rfl rfl) ?_
  refine Eq.trans (q_iconst (x := (-1)) dX1_calculate_69 rfl) ?_
  refine Eq.trans (q_iload dX1_calculate_70 rfl) ?_
  exact q_call0 (as := [.int ((-1)), .int v4]) (rest := []) dX1_calculate_72 mx_inv_1_166 rfl rfl rfl ⟨Nat.le_of_ble_eq_true rfl, Nat.le_of_ble_eq_true rfl, (Nat.le_of_ble_eq_true rfl)⟩
theorem e_X1_calculate_75 (v1 : Option Nat) (v2 : Int32) (v3 : Int32) (v4 : Int32) (h : mx_H)  : mx_D (13, mm_X1_calculate, 75, [.ref 28, mx_rf v1, .int v2, .int v3, .int v4, mx_junk], []) h = (mx_C mm_X1_loadRight [.ref 28, .int v2, .int v4, .int 1] h).bind (fun o => mx_D (13, mm_X1_calculate, 83, [.ref 28, mx_rf v1, .int v2, .int v3, .int v4, mx_junk], o.1.toList ++ []) o.2) := by
  refine Eq.trans (q_aload_n dX1_calculate_75 rfl rfl) ?_
  refine Eq.trans (q_iload_n dX1_calculate_76 rfl) ?_
  refine Eq.trans (q_iload dX1_calculate_77 rfl) ?_
  refine Eq.trans (q_iconst (x := 1) dX1_calculate_79 rfl) ?_
  exact q_call0 (as := [.int v2, .int v4, .int 1]) (rest := []) dX1_calculate_80 mx_inv_1_169 rfl rfl rfl ⟨Nat.le_of_ble_eq_true rfl, Nat.le_of_ble_eq_true rfl, (Nat.le_of_ble_eq_true rfl)⟩
theorem e_X1_calculate_83 (v1 : Option Nat) (v2 : Int32) (v3 : Int32) (v4 : Int32) (h : mx_H)  : mx_D (13, mm_X1_calculate, 83, [.ref 28, mx_rf v1, .int v2, .int v3, .int v4, mx_junk], []) h = (mx_C mm_X1_add [.ref 28, .int v4, .int 0] h).bind (fun o => mx_D (13, mm_X1_calculate, 90, [.ref 28, mx_rf v1, .int v2, .int v3, .int v4, mx_junk], o.1.toList ++ []) o.2) := by
  refine Eq.trans (q_aload_n dX1_calculate_83 rfl rfl) ?_
  refine Eq.trans (q_iload dX1_calculate_84 rfl) ?_
  refine Eq.trans (q_iconst (x := 0) dX1_calculate_86 rfl) ?_
  exact q_call0 (as := [.int v4, .int 0]) (rest := []) dX1_calculate_87 mx_inv_1_173 rfl rfl rfl ⟨Nat.le_of_ble_eq_true rfl, Nat.le_of_ble_eq_true rfl, (Nat.le_of_ble_eq_true rfl)⟩
theorem e_X1_calculate_90 (v1 : Option Nat) (v2 : Int32) (v3 : Int32) (v4 : Int32) (s0 : Int32) (h : mx_H)  : mx_D (13, mm_X1_calculate, 90, [.ref 28, mx_rf v1, .int v2, .int v3, .int v4, mx_junk], [.int s0]) h = mx_D (13, mm_X1_calculate, 188, [.ref 28, mx_rf v1, .int v2, .int v3, .int v4, mx_junk], []) h := by
  refine Eq.trans (q_pop dX1_calculate_90 rfl) ?_
  refine Eq.trans (q_goto 188 dX1_calculate_91 rfl) ?_
  rfl
theorem e_X1_calculate_94 (v1 : Option Nat) (v2 : Int32) (v3 : Int32) (v4 : Int32) (h : mx_H)  : mx_D (13, mm_X1_calculate, 94, [.ref 28, mx_rf v1, .int v2, .int v3, .int v4, mx_junk], []) h = (mx_C mm_X1_loadLeft [.ref 28, .int v2, .int v4] h).bind (fun o => mx_D (13, mm_X1_calculate, 101, [.ref 28, mx_rf v1, .int v2, .int v3, .int v4, mx_junk], o.1.toList ++ []) o.2) := by
  refine Eq.trans (q_aload_n dX1_calculate_94 rfl rfl) ?_
  refine Eq.trans (q_iload_n dX1_calculate_95 rfl) ?_
  refine Eq.trans (q_iload dX1_calculate_96 rfl) ?_
  exact q_call0 (as := [.int v2, .int v4]) (rest := []) dX1_calculate_98 mx_inv_1_166 rfl rfl rfl ⟨Nat.le_of_ble_eq_true rfl, Nat.le_of_ble_eq_true rfl, (Nat.le_of_ble_eq_true rfl)⟩
theorem e_X1_calculate_101 (v1 : Option Nat) (v2 : Int32) (v3 : Int32) (v4 : Int32) (h : mx_H)  : mx_D (13, mm_X1_calculate, 101, [.ref 28, mx_rf v1, .int v2, .int v3, .int v4, mx_junk], []) h = (mx_C mm_X1_loadRight [.ref 28, .int v3, .int v4, .int 0] h).bind (fun o => mx_D (13, mm_X1_calculate, 109, [.ref 28, mx_rf v1, .int v2, .int v3, .int v4, mx_junk], o.1.toList ++ []) o.2) := by
  refine Eq.trans (q_aload_n dX1_calculate_101 rfl rfl) ?_
  refine Eq.trans (q_iload_n dX1_calculate_102 rfl) ?_
  refine Eq.trans (q_iload dX1_calculate_103 rfl) ?_
  refine Eq.trans (q_iconst (x := 0) dX1_calculate_105 rfl) ?_
  exact q_call0 (as := [.int v3, .int v4, .int 0]) (rest := []) dX1_calculate_106 mx_inv_1_169 rfl rfl rfl ⟨Nat.le_of_ble_eq_true rfl, Nat.le_of_ble_eq_true rfl, (Nat.le_of_ble_eq_true rfl)⟩
theorem e_X1_calculate_109 (v1 : Option Nat) (v2 : Int32) (v3 : Int32) (v4 : Int32) (h : mx_H)  : mx_D (13, mm_X1_calculate, 109, [.ref 28, mx_rf v1, .int v2, .int v3, .int v4, mx_junk], []) h = (mx_C mm_X1_add [.ref 28, .int v4, .int 1] h).bind (fun o => mx_D (13, mm_X1_calculate, 116, [.ref 28, mx_rf v1, .int v2, .int v3, .int v4, mx_junk], o.1.toList ++ []) o.2) := by
  refine Eq.trans (q_aload_n dX1_calculate_109 rfl rfl) ?_
  refine Eq.trans (q_iload dX1_calculate_110 rfl) ?_
  refine Eq.trans (q_iconst (x := 1) dX1_calculate_112 rfl) ?_
  exact q_call0 (as := [.int v4, .int 1]) (rest := []) dX1_calculate_113 mx_inv_1_173 rfl rfl rfl ⟨Nat.le_of_ble_eq_true rfl, Nat.le_of_ble_eq_true rfl, (Nat.le_of_ble_eq_true rfl)⟩
theorem e_X1_calculate_116 (v1 : Option Nat) (v2 : Int32) (v3 : Int32) (v4 : Int32) (s0 : Int32) (h : mx_H)  : mx_D (13, mm_X1_calculate, 116, [.ref 28, mx_rf v1, .int v2, .int v3, .int v4, mx_junk], [.int s0]) h = mx_D (13, mm_X1_calculate, 188, [.ref 28, mx_rf v1, .int v2, .int v3, .int v4, mx_junk], []) h := by
  refine Eq.trans (q_pop dX1_calculate_116 rfl) ?_
  refine Eq.trans (q_goto 188 dX1_calculate_117 rfl) ?_
  rfl
theorem e_X1_calculate_120 (v1 : Option Nat) (v2 : Int32) (v3 : Int32) (v4 : Int32) (h : mx_H)  : mx_D (13, mm_X1_calculate, 120, [.ref 28, mx_rf v1, .int v2, .int v3, .int v4, mx_junk], []) h = (mx_C mm_X1_loadLeft [.ref 28, .int v2, .int v4] h).bind (fun o => mx_D (13, mm_X1_calculate, 127, [.ref 28, mx_rf v1, .int v2, .int v3, .int v4, mx_junk], o.1.toList ++ []) o.2) := by
  refine Eq.trans (q_aload_n dX1_calculate_120 rfl rfl) ?_
  refine Eq.trans (q_iload_n dX1_calculate_121 rfl) ?_
  refine Eq.trans (q_iload dX1_calculate_122 rfl) ?_
  exact q_call0 (as := [.int v2, .int v4]) (rest := []) dX1_calculate_124 mx_inv_1_166 rfl rfl rfl ⟨Nat.le_of_ble_eq_true rfl, Nat.le_of_ble_eq_true rfl, (Nat.le_of_ble_eq_true rfl)⟩
theorem e_X1_calculate_127 (v1 : Option Nat) (v2 : Int32) (v3 : Int32) (v4 : Int32) (h : mx_H)  : mx_D (13, mm_X1_calculate, 127, [.ref 28, mx_rf v1, .int v2, .int v3, .int v4, mx_junk], []) h = (mx_C mm_X1_loadRight [.ref 28, .int v3, .int v4, .int 1] h).bind (fun o => mx_D (13, mm_X1_calculate, 135, [.ref 28, mx_rf v1, .int v2, .int v3, .int v4, mx_junk], o.1.toList ++ []) o.2) := by
  refine Eq.trans (q_aload_n dX1_calculate_127 rfl rfl) ?_
  refine Eq.trans (q_iload_n dX1_calculate_128 rfl) ?_
  refine Eq.trans (q_iload dX1_calculate_129 rfl) ?_
  refine Eq.trans (q_iconst (x := 1) dX1_calculate_131 rfl) ?_
  exact q_call0 (as := [.int v3, .int v4, .int 1]) (rest := []) dX1_calculate_132 mx_inv_1_169 rfl rfl rfl ⟨Nat.le_of_ble_eq_true rfl, Nat.le_of_ble_eq_true rfl, (Nat.le_of_ble_eq_true rfl)⟩
theorem e_X1_calculate_135 (v1 : Option Nat) (v2 : Int32) (v3 : Int32) (v4 : Int32) (h : mx_H)  : mx_D (13, mm_X1_calculate, 135, [.ref 28, mx_rf v1, .int v2, .int v3, .int v4, mx_junk], []) h = (mx_C mm_X1_add [.ref 28, .int v4, .int 0] h).bind (fun o => mx_D (13, mm_X1_calculate, 142, [.ref 28, mx_rf v1, .int v2, .int v3, .int v4, mx_junk], o.1.toList ++ []) o.2) := by
  refine Eq.trans (q_aload_n dX1_calculate_135 rfl rfl) ?_
  refine Eq.trans (q_iload dX1_calculate_136 rfl) ?_
  refine Eq.trans (q_iconst (x := 0) dX1_calculate_138 rfl) ?_
  exact q_call0 (as := [.int v4, .int 0]) (rest := []) dX1_calculate_139 mx_inv_1_173 rfl rfl rfl ⟨Nat.le_of_ble_eq_true rfl, Nat.le_of_ble_eq_true rfl, (Nat.le_of_ble_eq_true rfl)⟩
theorem e_X1_calculate_142 (v1 : Option Nat) (v2 : Int32) (v3 : Int32) (v4 : Int32) (s0 : Int32) (h : mx_H)  : mx_D (13, mm_X1_calculate, 142, [.ref 28, mx_rf v1, .int v2, .int v3, .int v4, mx_junk], [.int s0]) h = mx_D (13, mm_X1_calculate, 188, [.ref 28, mx_rf v1, .int v2, .int v3, .int v4, mx_junk], []) h := by
  refine Eq.trans (q_pop dX1_calculate_142 rfl) ?_
  refine Eq.trans (q_goto 188 dX1_calculate_143 rfl) ?_
  rfl
theorem e_X1_calculate_146 (v1 : Option Nat) (v2 : Int32) (v3 : Int32) (v4 : Int32) (h : mx_H)  : mx_D (13, mm_X1_calculate, 146, [.ref 28, mx_rf v1, .int v2, .int v3, .int v4, mx_junk], []) h = (mx_C mm_X1_multiply [.ref 28, .int v2, .int v3, .int v4] h).bind (fun o => mx_D (13, mm_X1_calculate, 154, [.ref 28, mx_rf v1, .int v2, .int v3, .int v4, mx_junk], o.1.toList ++ []) o.2) := by
  refine Eq.trans (q_aload_n dX1_calculate_146 rfl rfl) ?_
  refine Eq.trans (q_iload_n dX1_calculate_147 rfl) ?_
  refine Eq.trans (q_iload_n dX1_calculate_148 rfl) ?_
  refine Eq.trans (q_iload dX1_calculate_149 rfl) ?_
  exact q_call0 (as := [.int v2, .int v3, .int v4]) (rest := []) dX1_calculate_151 mx_inv_1_176 rfl rfl rfl ⟨Nat.le_of_ble_eq_true rfl, Nat.le_of_ble_eq_true rfl, (Nat.le_of_ble_eq_true rfl)⟩
theorem e_X1_calculate_154 (v1 : Option Nat) (v2 : Int32) (v3 : Int32) (v4 : Int32) (h : mx_H)  : mx_D (13, mm_X1_calculate, 154, [.ref 28, mx_rf v1, .int v2, .int v3, .int v4, mx_junk], []) h = mx_D (13, mm_X1_calculate, 188, [.ref 28, mx_rf v1, .int v2, .int v3, .int v4, mx_junk], []) h := by
  refine Eq.trans (q_goto 188 dX1_calculate_154 rfl) ?_
  rfl
theorem e_X1_calculate_157 (v1 : Option Nat) (v2 : Int32) (v3 : Int32) (v4 : Int32) (h : mx_H)  : mx_D (13, mm_X1_calculate, 157, [.ref 28, mx_rf v1, .int v2, .int v3, .int v4, mx_junk], []) h = (mx_C mm_X1_divide [.ref 28, mx_rf v1, .int v2, .int v3, .int v4] h).bind (fun o => mx_D (13, mm_X1_calculate, 166, [.ref 28, mx_rf v1, .int v2, .int v3, .int v4, mx_junk], o.1.toList ++ []) o.2) := by
  refine Eq.trans (q_aload_n dX1_calculate_157 rfl rfl) ?_
  refine Eq.trans (q_aload_n dX1_calculate_158 rfl (mx_ar_rf _)) ?_
  refine Eq.trans (q_iload_n dX1_calculate_159 rfl) ?_
  refine Eq.trans (q_iload_n dX1_calculate_160 rfl) ?_
  refine Eq.trans (q_iload dX1_calculate_161 rfl) ?_
  exact q_call0 (as := [mx_rf v1, .int v2, .int v3, .int v4]) (rest := []) dX1_calculate_163 mx_inv_1_179 rfl rfl rfl ⟨Nat.le_of_ble_eq_true rfl, (by cases v1 <;> exact Nat.le_of_ble_eq_true rfl), (Nat.le_of_ble_eq_true rfl)⟩
theorem e_X1_calculate_166 (v1 : Option Nat) (v2 : Int32) (v3 : Int32) (v4 : Int32) (h : mx_H)  : mx_D (13, mm_X1_calculate, 166, [.ref 28, mx_rf v1, .int v2, .int v3, .int v4, mx_junk], []) h = some (none, h) := by
  exact q_retV dX1_calculate_166 rfl
theorem e_X1_calculate_167 (v1 : Option Nat) (v2 : Int32) (v3 : Int32) (v4 : Int32) (h : mx_H)  : mx_D (13, mm_X1_calculate, 167, [.ref 28, mx_rf v1, .int v2, .int v3, .int v4, mx_junk], []) h = (mx_C mm_X1_shift [.ref 28, mx_rf v1, .int v2, .int v3, .int v4] h).bind (fun o => mx_D (13, mm_X1_calculate, 176, [.ref 28, mx_rf v1, .int v2, .int v3, .int v4, mx_junk], o.1.toList ++ []) o.2) := by
  refine Eq.trans (q_aload_n dX1_calculate_167 rfl rfl) ?_
  refine Eq.trans (q_aload_n dX1_calculate_168 rfl (mx_ar_rf _)) ?_
  refine Eq.trans (q_iload_n dX1_calculate_169 rfl) ?_
  refine Eq.trans (q_iload_n dX1_calculate_170 rfl) ?_
  refine Eq.trans (q_iload dX1_calculate_171 rfl) ?_
  exact q_call0 (as := [mx_rf v1, .int v2, .int v3, .int v4]) (rest := []) dX1_calculate_173 mx_inv_1_182 rfl rfl rfl ⟨Nat.le_of_ble_eq_true rfl, (by cases v1 <;> exact Nat.le_of_ble_eq_true rfl), (Nat.le_of_ble_eq_true rfl)⟩
theorem e_X1_calculate_176 (v1 : Option Nat) (v2 : Int32) (v3 : Int32) (v4 : Int32) (h : mx_H)  : mx_D (13, mm_X1_calculate, 176, [.ref 28, mx_rf v1, .int v2, .int v3, .int v4, mx_junk], []) h = mx_D (13, mm_X1_calculate, 188, [.ref 28, mx_rf v1, .int v2, .int v3, .int v4, mx_junk], []) h := by
  refine Eq.trans (q_goto 188 dX1_calculate_176 rfl) ?_
  rfl
theorem e_X1_calculate_179 (v1 : Option Nat) (v2 : Int32) (v3 : Int32) (v4 : Int32) (h : mx_H)  : mx_D (13, mm_X1_calculate, 179, [.ref 28, mx_rf v1, .int v2, .int v3, .int v4, mx_junk], []) h = (mx_C mm_X1_mix [.ref 28, mx_rf v1, .int v2, .int v3, .int v4] h).bind (fun o => mx_D (13, mm_X1_calculate, 188, [.ref 28, mx_rf v1, .int v2, .int v3, .int v4, mx_junk], o.1.toList ++ []) o.2) := by
  refine Eq.trans (q_aload_n dX1_calculate_179 rfl rfl) ?_
  refine Eq.trans (q_aload_n dX1_calculate_180 rfl (mx_ar_rf _)) ?_
  refine Eq.trans (q_iload_n dX1_calculate_181 rfl) ?_
  refine Eq.trans (q_iload_n dX1_calculate_182 rfl) ?_
  refine Eq.trans (q_iload dX1_calculate_183 rfl) ?_
  exact q_call0 (as := [mx_rf v1, .int v2, .int v3, .int v4]) (rest := []) dX1_calculate_185 mx_inv_1_185 rfl rfl rfl ⟨Nat.le_of_ble_eq_true rfl, (by cases v1 <;> exact Nat.le_of_ble_eq_true rfl), (Nat.le_of_ble_eq_true rfl)⟩
theorem e_X1_calculate_188 (v1 : Option Nat) (v2 : Int32) (v3 : Int32) (v4 : Int32) (h : mx_H)  : mx_D (13, mm_X1_calculate, 188, [.ref 28, mx_rf v1, .int v2, .int v3, .int v4, mx_junk], []) h = mx_D (13, mm_X1_calculate, 191, [.ref 28, mx_rf v1, .int v2, .int v3, .int v4, .int 0], []) h := by
  refine Eq.trans (q_iconst (x := 0) dX1_calculate_188 rfl) ?_
  refine Eq.trans (q_istore (L' := [.ref 28, mx_rf v1, .int v2, .int v3, .int v4, .int 0]) dX1_calculate_189 (Nat.le_of_ble_eq_true rfl) rfl) ?_
  rfl
theorem e_X1_calculate_191 (v1 : Option Nat) (v2 : Int32) (v3 : Int32) (v4 : Int32) (v5 : Int32) (h : mx_H)  : mx_D (13, mm_X1_calculate, 191, [.ref 28, mx_rf v1, .int v2, .int v3, .int v4, .int v5], []) h = if v4 ≤ v5 then some (none, h) else (if mx_in v5 4 = true then (mx_C mm_X1_set [.ref 28, .int v5, .int (h.1 32 v5.toNatClampNeg)] h).bind (fun o => mx_D (13, mm_X1_calculate, 211, [.ref 28, mx_rf v1, .int v2, .int v3, .int v4, .int v5], o.1.toList ++ []) o.2) else none) := by
  refine Eq.trans (q_iload dX1_calculate_191 rfl) ?_
  refine Eq.trans (q_iload dX1_calculate_193 rfl) ?_
  refine Eq.trans (q_icmp_ge 217 dX1_calculate_195 rfl) (q_ite2 ?_ ?_)
  · exact q_retV dX1_calculate_217 rfl
  · refine Eq.trans (q_aload_n dX1_calculate_198 rfl rfl) ?_
    refine Eq.trans (q_iload dX1_calculate_199 rfl) ?_
    refine Eq.trans (q_aload_n dX1_calculate_201 rfl rfl) ?_
    refine Eq.trans (q_getf dX1_calculate_202 mx_fld_1_21 (gf_28_6 _)) ?_
    refine Eq.trans (q_iload dX1_calculate_205 rfl) ?_
    refine Eq.trans (q_ld (w := 0) (by decide) dX1_calculate_207 (al_32 _ _)) (q_ite ?_)
    exact q_call0 (as := [.int v5, .int (h.1 32 v5.toNatClampNeg)]) (rest := []) dX1_calculate_208 mx_inv_1_61 rfl rfl rfl ⟨Nat.le_of_ble_eq_true rfl, Nat.le_of_ble_eq_true rfl, (Nat.le_of_ble_eq_true rfl)⟩
theorem e_X1_calculate_211 (v1 : Option Nat) (v2 : Int32) (v3 : Int32) (v4 : Int32) (v5 : Int32) (h : mx_H)  : mx_D (13, mm_X1_calculate, 211, [.ref 28, mx_rf v1, .int v2, .int v3, .int v4, .int v5], []) h = mx_D (13, mm_X1_calculate, 191, [.ref 28, mx_rf v1, .int v2, .int v3, .int v4, .int (v5 + 1)], []) h := by
  refine Eq.trans (q_iinc (x' := 1) (L' := [.ref 28, mx_rf v1, .int v2, .int v3, .int v4, .int (v5 + 1)]) dX1_calculate_211 rfl rfl rfl) ?_
  refine Eq.trans (q_goto 191 dX1_calculate_214 rfl) ?_
  rfl
theorem e_X1_mix_0 (v1 : Option Nat) (v2 : Int32) (v3 : Int32) (v4 : Int32) (h : mx_H)  : mx_D (12, mm_X1_mix, 0, [.ref 28, mx_rf v1, .int v2, .int v3, .int v4, mx_junk], []) h = mx_D (12, mm_X1_mix, 3, [.ref 28, mx_rf v1, .int v2, .int v3, .int v4, .int 0], []) h := by
  refine Eq.trans (q_iconst (x := 0) dX1_mix_0 rfl) ?_
  refine Eq.trans (q_istore (L' := [.ref 28, mx_rf v1, .int v2, .int v3, .int v4, .int 0]) dX1_mix_1 (Nat.le_of_ble_eq_true rfl) rfl) ?_
  rfl
theorem c_X1_mix (v1 : Option Nat) (v2 : Int32) (v3 : Int32) (v4 : Int32) (h : mx_H) : mx_C mm_X1_mix [.ref 28, mx_rf v1, .int v2, .int v3, .int v4] h = mx_D (12, mm_X1_mix, 0, [.ref 28, mx_rf v1, .int v2, .int v3, .int v4, mx_junk], []) h := (by cases v1 <;> exact rfl)
theorem e_X1_mix_3 (v1 : Nat) (hw_v1 : 1000 ≤ v1 ∧ v1 < 1042) (v2 : Int32) (v3 : Int32) (v4 : Int32) (v5 : Int32) (h : mx_H)  : mx_D (12, mm_X1_mix, 3, [.ref 28, .ref v1, .int v2, .int v3, .int v4, .int v5], []) h = if v4 ≤ v5 then some (none, h) else (if mx_in (Int32.ofNat (v1 - 1000)) 42 = true then mx_D (12, mm_X1_mix, 18, [.ref 28, .ref v1, .int v2, .int v3, .int v4, .int v5], [.int (mx_swm ((Int32.ofNat (v1 - 1000)).toNatClampNeg))]) h else none) := by
  refine Eq.trans (q_iload dX1_mix_3 rfl) ?_
  refine Eq.trans (q_iload dX1_mix_5 rfl) ?_
  refine Eq.trans (q_icmp_ge 159 dX1_mix_7 rfl) (q_ite2 ?_ ?_)
  · exact q_retV dX1_mix_159 rfl
  · refine Eq.trans (q_gets dX1_mix_10 mx_sta_1_116) ?_
    refine Eq.trans (q_aload_n dX1_mix_13 rfl rfl) ?_
    refine Eq.trans (q_ord dX1_mix_14 mx_inv_1_121 hw_v1 (by simp)) ?_
    refine Eq.trans (q_ld (w := 0) (by decide) dX1_mix_17 (mx_ld_2001)) (q_ite ?_)
    rfl
theorem e_X1_mix_18_17 (v1 : Option Nat) (v2 : Int32) (v3 : Int32) (v4 : Int32) (v5 : Int32) (h : mx_H) : mx_D (12, mm_X1_mix, 18, [.ref 28, mx_rf v1, .int v2, .int v3, .int v4, .int v5], [.int 17]) h = mx_D (12, mm_X1_mix, 44, [.ref 28, mx_rf v1, .int v2, .int v3, .int v4, .int v5], []) h := q_tsw 44 dX1_mix_18 rfl rfl
theorem e_X1_mix_18_18 (v1 : Option Nat) (v2 : Int32) (v3 : Int32) (v4 : Int32) (v5 : Int32) (h : mx_H) : mx_D (12, mm_X1_mix, 18, [.ref 28, mx_rf v1, .int v2, .int v3, .int v4, .int v5], [.int 18]) h = mx_D (12, mm_X1_mix, 75, [.ref 28, mx_rf v1, .int v2, .int v3, .int v4, .int v5], []) h := q_tsw 75 dX1_mix_18 rfl rfl
theorem e_X1_mix_18_19 (v1 : Option Nat) (v2 : Int32) (v3 : Int32) (v4 : Int32) (v5 : Int32) (h : mx_H) : mx_D (12, mm_X1_mix, 18, [.ref 28, mx_rf v1, .int v2, .int v3, .int v4, .int v5], [.int 19]) h = mx_D (12, mm_X1_mix, 106, [.ref 28, mx_rf v1, .int v2, .int v3, .int v4, .int v5], []) h := q_tsw 106 dX1_mix_18 rfl rfl
theorem e_X1_mix_18_d (v1 : Option Nat) (v2 : Int32) (v3 : Int32) (v4 : Int32) (v5 : Int32) (x : Int32) (hx : x.toInt < 17 ∨ 19 < x.toInt) (h : mx_H) : mx_D (12, mm_X1_mix, 18, [.ref 28, mx_rf v1, .int v2, .int v3, .int v4, .int v5], [.int x]) h = mx_D (12, mm_X1_mix, 137, [.ref 28, mx_rf v1, .int v2, .int v3, .int v4, .int v5], []) h := q_tsw 137 dX1_mix_18 (if_pos hx) rfl
theorem e_X1_mix_44 (v1 : Option Nat) (v2 : Int32) (v3 : Int32) (v4 : Int32) (v5 : Int32) (h : mx_H)  : mx_D (12, mm_X1_mix, 44, [.ref 28, mx_rf v1, .int v2, .int v3, .int v4, .int v5], []) h = (mx_C mm_X1_bitOf [.ref 28, .int v2, .int v5] h).bind (fun o => mx_D (12, mm_X1_mix, 61, [.ref 28, mx_rf v1, .int v2, .int v3, .int v4, .int v5], o.1.toList ++ [.ref 22, .int v5, .ref 32]) o.2) := by
  refine Eq.trans (q_aload_n dX1_mix_44 rfl rfl) ?_
  refine Eq.trans (q_getf dX1_mix_45 mx_fld_1_21 (gf_28_6 _)) ?_
  refine Eq.trans (q_iload dX1_mix_48 rfl) ?_
  refine Eq.trans (q_aload_n dX1_mix_50 rfl rfl) ?_
  refine Eq.trans (q_getf dX1_mix_51 mx_fld_1_28 (gf_28_1 _)) ?_
  refine Eq.trans (q_aload_n dX1_mix_54 rfl rfl) ?_
  refine Eq.trans (q_iload_n dX1_mix_55 rfl) ?_
  refine Eq.trans (q_iload dX1_mix_56 rfl) ?_
  exact q_call0 (as := [.int v2, .int v5]) (rest := [.ref 22, .int v5, .ref 32]) dX1_mix_58 mx_inv_1_54 rfl rfl rfl ⟨Nat.le_of_ble_eq_true rfl, Nat.le_of_ble_eq_true rfl, (Nat.le_of_ble_eq_true rfl)⟩
theorem e_X1_mix_61 (v1 : Option Nat) (v2 : Int32) (v3 : Int32) (v4 : Int32) (v5 : Int32) (s1 : Int32) (s3 : Int32) (h : mx_H)  : mx_D (12, mm_X1_mix, 61, [.ref 28, mx_rf v1, .int v2, .int v3, .int v4, .int v5], [.int s3, .ref 22, .int s1, .ref 32]) h = (mx_C mm_X1_bitOf [.ref 28, .int v3, .int v5] h).bind (fun o => mx_D (12, mm_X1_mix, 68, [.ref 28, mx_rf v1, .int v2, .int v3, .int v4, .int v5], o.1.toList ++ [.int s3, .ref 22, .int s1, .ref 32]) o.2) := by
  refine Eq.trans (q_aload_n dX1_mix_61 rfl rfl) ?_
  refine Eq.trans (q_iload_n dX1_mix_62 rfl) ?_
  refine Eq.trans (q_iload dX1_mix_63 rfl) ?_
  exact q_call0 (as := [.int v3, .int v5]) (rest := [.int s3, .ref 22, .int s1, .ref 32]) dX1_mix_65 mx_inv_1_54 rfl rfl rfl ⟨Nat.le_of_ble_eq_true rfl, Nat.le_of_ble_eq_true rfl, (Nat.le_of_ble_eq_true rfl)⟩
theorem e_X1_mix_68 (v1 : Option Nat) (v2 : Int32) (v3 : Int32) (v4 : Int32) (v5 : Int32) (s1 : Int32) (s3 : Int32) (s4 : Int32) (h : mx_H)  : mx_D (12, mm_X1_mix, 68, [.ref 28, mx_rf v1, .int v2, .int v3, .int v4, .int v5], [.int s4, .int s3, .ref 22, .int s1, .ref 32]) h = (mx_C mm_X3_and [.ref 22, .int s3, .int s4] h).bind (fun o => mx_D (12, mm_X1_mix, 71, [.ref 28, mx_rf v1, .int v2, .int v3, .int v4, .int v5], o.1.toList ++ [.int s1, .ref 32]) o.2) := by
  exact q_call0 (as := [.int s3, .int s4]) (rest := [.int s1, .ref 32]) dX1_mix_68 mx_inv_1_125 rfl rfl rfl ⟨Nat.le_of_ble_eq_true rfl, Nat.le_of_ble_eq_true rfl, (Nat.le_of_ble_eq_true rfl)⟩
theorem e_X1_mix_71 (v1 : Option Nat) (v2 : Int32) (v3 : Int32) (v4 : Int32) (v5 : Int32) (s1 : Int32) (s2 : Int32) (h : mx_H)  : mx_D (12, mm_X1_mix, 71, [.ref 28, mx_rf v1, .int v2, .int v3, .int v4, .int v5], [.int s2, .int s1, .ref 32]) h = if mx_in s1 4 = true then mx_D (12, mm_X1_mix, 153, [.ref 28, mx_rf v1, .int v2, .int v3, .int v4, .int v5], []) ((mx_u h.1 32 s1.toNatClampNeg s2), h.2.1, h.2.2) else none := by
  refine Eq.trans (q_st (w := 0) (by decide) dX1_mix_71 (as_32 _ _ _)) (q_ite ?_)
  refine Eq.trans (q_goto 153 dX1_mix_72 rfl) ?_
  rfl
theorem e_X1_mix_75 (v1 : Option Nat) (v2 : Int32) (v3 : Int32) (v4 : Int32) (v5 : Int32) (h : mx_H)  : mx_D (12, mm_X1_mix, 75, [.ref 28, mx_rf v1, .int v2, .int v3, .int v4, .int v5], []) h = (mx_C mm_X1_bitOf [.ref 28, .int v2, .int v5] h).bind (fun o => mx_D (12, mm_X1_mix, 92, [.ref 28, mx_rf v1, .int v2, .int v3, .int v4, .int v5], o.1.toList ++ [.ref 22, .int v5, .ref 32]) o.2) := by
  refine Eq.trans (q_aload_n dX1_mix_75 rfl rfl) ?_
  refine Eq.trans (q_getf dX1_mix_76 mx_fld_1_21 (gf_28_6 _)) ?_
  refine Eq.trans (q_iload dX1_mix_79 rfl) ?_
  refine Eq.trans (q_aload_n dX1_mix_81 rfl rfl) ?_
  refine Eq.trans (q_getf dX1_mix_82 mx_fld_1_28 (gf_28_1 _)) ?_
  refine Eq.trans (q_aload_n dX1_mix_85 rfl rfl) ?_
  refine Eq.trans (q_iload_n dX1_mix_86 rfl) ?_
  refine Eq.trans (q_iload dX1_mix_87 rfl) ?_
  exact q_call0 (as := [.int v2, .int v5]) (rest := [.ref 22, .int v5, .ref 32]) dX1_mix_89 mx_inv_1_54 rfl rfl rfl ⟨Nat.le_of_ble_eq_true rfl, Nat.le_of_ble_eq_true rfl, (Nat.le_of_ble_eq_true rfl)⟩
theorem e_X1_mix_92 (v1 : Option Nat) (v2 : Int32) (v3 : Int32) (v4 : Int32) (v5 : Int32) (s1 : Int32) (s3 : Int32) (h : mx_H)  : mx_D (12, mm_X1_mix, 92, [.ref 28, mx_rf v1, .int v2, .int v3, .int v4, .int v5], [.int s3, .ref 22, .int s1, .ref 32]) h = (mx_C mm_X1_bitOf [.ref 28, .int v3, .int v5] h).bind (fun o => mx_D (12, mm_X1_mix, 99, [.ref 28, mx_rf v1, .int v2, .int v3, .int v4, .int v5], o.1.toList ++ [.int s3, .ref 22, .int s1, .ref 32]) o.2) := by
  refine Eq.trans (q_aload_n dX1_mix_92 rfl rfl) ?_
  refine Eq.trans (q_iload_n dX1_mix_93 rfl) ?_
  refine Eq.trans (q_iload dX1_mix_94 rfl) ?_
  exact q_call0 (as := [.int v3, .int v5]) (rest := [.int s3, .ref 22, .int s1, .ref 32]) dX1_mix_96 mx_inv_1_54 rfl rfl rfl ⟨Nat.le_of_ble_eq_true rfl, Nat.le_of_ble_eq_true rfl, (Nat.le_of_ble_eq_true rfl)⟩
theorem e_X1_mix_99 (v1 : Option Nat) (v2 : Int32) (v3 : Int32) (v4 : Int32) (v5 : Int32) (s1 : Int32) (s3 : Int32) (s4 : Int32) (h : mx_H)  : mx_D (12, mm_X1_mix, 99, [.ref 28, mx_rf v1, .int v2, .int v3, .int v4, .int v5], [.int s4, .int s3, .ref 22, .int s1, .ref 32]) h = (mx_C mm_X3_or [.ref 22, .int s3, .int s4] h).bind (fun o => mx_D (12, mm_X1_mix, 102, [.ref 28, mx_rf v1, .int v2, .int v3, .int v4, .int v5], o.1.toList ++ [.int s1, .ref 32]) o.2) := by
  exact q_call0 (as := [.int s3, .int s4]) (rest := [.int s1, .ref 32]) dX1_mix_99 mx_inv_1_130 rfl rfl rfl ⟨Nat.le_of_ble_eq_true rfl, Nat.le_of_ble_eq_true rfl, (Nat.le_of_ble_eq_true rfl)⟩
theorem e_X1_mix_102 (v1 : Option Nat) (v2 : Int32) (v3 : Int32) (v4 : Int32) (v5 : Int32) (s1 : Int32) (s2 : Int32) (h : mx_H)  : mx_D (12, mm_X1_mix, 102, [.ref 28, mx_rf v1, .int v2, .int v3, .int v4, .int v5], [.int s2, .int s1, .ref 32]) h = if mx_in s1 4 = true then mx_D (12, mm_X1_mix, 153, [.ref 28, mx_rf v1, .int v2, .int v3, .int v4, .int v5], []) ((mx_u h.1 32 s1.toNatClampNeg s2), h.2.1, h.2.2) else none := by
  refine Eq.trans (q_st (w := 0) (by decide) dX1_mix_102 (as_32 _ _ _)) (q_ite ?_)
  refine Eq.trans (q_goto 153 dX1_mix_103 rfl) ?_
  rfl
theorem e_X1_mix_106 (v1 : Option Nat) (v2 : Int32) (v3 : Int32) (v4 : Int32) (v5 : Int32) (h : mx_H)  : mx_D (12, mm_X1_mix, 106, [.ref 28, mx_rf v1, .int v2, .int v3, .int v4, .int v5], []) h = (mx_C mm_X1_bitOf [.ref 28, .int v2, .int v5] h).bind (fun o => mx_D (12, mm_X1_mix, 123, [.ref 28, mx_rf v1, .int v2, .int v3, .int v4, .int v5], o.1.toList ++ [.ref 22, .int v5, .ref 32]) o.2) := by
  refine Eq.trans (q_aload_n dX1_mix_106 rfl rfl) ?_
  refine Eq.trans (q_getf dX1_mix_107 mx_fld_1_21 (gf_28_6 _)) ?_
  refine Eq.trans (q_iload dX1_mix_110 rfl) ?_
  refine Eq.trans (q_aload_n dX1_mix_112 rfl rfl) ?_
  refine Eq.trans (q_getf dX1_mix_113 mx_fld_1_28 (gf_28_1 _)) ?_
  refine Eq.trans (q_aload_n dX1_mix_116 rfl rfl) ?_
  refine Eq.trans (q_iload_n dX1_mix_117 rfl) ?_
  refine Eq.trans (q_iload dX1_mix_118 rfl) ?_
  exact q_call0 (as := [.int v2, .int v5]) (rest := [.ref 22, .int v5, .ref 32]) dX1_mix_120 mx_inv_1_54 rfl rfl rfl ⟨Nat.le_of_ble_eq_true rfl, Nat.le_of_ble_eq_true rfl, (Nat.le_of_ble_eq_true rfl)⟩
theorem e_X1_mix_123 (v1 : Option Nat) (v2 : Int32) (v3 : Int32) (v4 : Int32) (v5 : Int32) (s1 : Int32) (s3 : Int32) (h : mx_H)  : mx_D (12, mm_X1_mix, 123, [.ref 28, mx_rf v1, .int v2, .int v3, .int v4, .int v5], [.int s3, .ref 22, .int s1, .ref 32]) h = (mx_C mm_X1_bitOf [.ref 28, .int v3, .int v5] h).bind (fun o => mx_D (12, mm_X1_mix, 130, [.ref 28, mx_rf v1, .int v2, .int v3, .int v4, .int v5], o.1.toList ++ [.int s3, .ref 22, .int s1, .ref 32]) o.2) := by
  refine Eq.trans (q_aload_n dX1_mix_123 rfl rfl) ?_
  refine Eq.trans (q_iload_n dX1_mix_124 rfl) ?_
  refine Eq.trans (q_iload dX1_mix_125 rfl) ?_
  exact q_call0 (as := [.int v3, .int v5]) (rest := [.int s3, .ref 22, .int s1, .ref 32]) dX1_mix_127 mx_inv_1_54 rfl rfl rfl ⟨Nat.le_of_ble_eq_true rfl, Nat.le_of_ble_eq_true rfl, (Nat.le_of_ble_eq_true rfl)⟩
theorem e_X1_mix_130 (v1 : Option Nat) (v2 : Int32) (v3 : Int32) (v4 : Int32) (v5 : Int32) (s1 : Int32) (s3 : Int32) (s4 : Int32) (h : mx_H)  : mx_D (12, mm_X1_mix, 130, [.ref 28, mx_rf v1, .int v2, .int v3, .int v4, .int v5], [.int s4, .int s3, .ref 22, .int s1, .ref 32]) h = (mx_C mm_X3_xor [.ref 22, .int s3, .int s4] h).bind (fun o => mx_D (12, mm_X1_mix, 133, [.ref 28, mx_rf v1, .int v2, .int v3, .int v4, .int v5], o.1.toList ++ [.int s1, .ref 32]) o.2) := by
  exact q_call0 (as := [.int s3, .int s4]) (rest := [.int s1, .ref 32]) dX1_mix_130 mx_inv_1_133 rfl rfl rfl ⟨Nat.le_of_ble_eq_true rfl, Nat.le_of_ble_eq_true rfl, (Nat.le_of_ble_eq_true rfl)⟩
theorem e_X1_mix_133 (v1 : Option Nat) (v2 : Int32) (v3 : Int32) (v4 : Int32) (v5 : Int32) (s1 : Int32) (s2 : Int32) (h : mx_H)  : mx_D (12, mm_X1_mix, 133, [.ref 28, mx_rf v1, .int v2, .int v3, .int v4, .int v5], [.int s2, .int s1, .ref 32]) h = if mx_in s1 4 = true then mx_D (12, mm_X1_mix, 153, [.ref 28, mx_rf v1, .int v2, .int v3, .int v4, .int v5], []) ((mx_u h.1 32 s1.toNatClampNeg s2), h.2.1, h.2.2) else none := by
  refine Eq.trans (q_st (w := 0) (by decide) dX1_mix_133 (as_32 _ _ _)) (q_ite ?_)
  refine Eq.trans (q_goto 153 dX1_mix_134 rfl) ?_
  rfl
theorem e_X1_mix_137 (v1 : Option Nat) (v2 : Int32) (v3 : Int32) (v4 : Int32) (v5 : Int32) (h : mx_H)  : mx_D (12, mm_X1_mix, 137, [.ref 28, mx_rf v1, .int v2, .int v3, .int v4, .int v5], []) h = (mx_C mm_X1_bitOf [.ref 28, .int v2, .int v5] h).bind (fun o => mx_D (12, mm_X1_mix, 150, [.ref 28, mx_rf v1, .int v2, .int v3, .int v4, .int v5], o.1.toList ++ [.int v5, .ref 32]) o.2) := by
  refine Eq.trans (q_aload_n dX1_mix_137 rfl rfl) ?_
  refine Eq.trans (q_getf dX1_mix_138 mx_fld_1_21 (gf_28_6 _)) ?_
  refine Eq.trans (q_iload dX1_mix_141 rfl) ?_
  refine Eq.trans (q_aload_n dX1_mix_143 rfl rfl) ?_
  refine Eq.trans (q_iload_n dX1_mix_144 rfl) ?_
  refine Eq.trans (q_iload dX1_mix_145 rfl) ?_
  exact q_call0 (as := [.int v2, .int v5]) (rest := [.int v5, .ref 32]) dX1_mix_147 mx_inv_1_54 rfl rfl rfl ⟨Nat.le_of_ble_eq_true rfl, Nat.le_of_ble_eq_true rfl, (Nat.le_of_ble_eq_true rfl)⟩
theorem e_X1_mix_150 (v1 : Option Nat) (v2 : Int32) (v3 : Int32) (v4 : Int32) (v5 : Int32) (s1 : Int32) (s2 : Int32) (h : mx_H)  : mx_D (12, mm_X1_mix, 150, [.ref 28, mx_rf v1, .int v2, .int v3, .int v4, .int v5], [.int s2, .int s1, .ref 32]) h = if mx_in s1 4 = true then mx_D (12, mm_X1_mix, 153, [.ref 28, mx_rf v1, .int v2, .int v3, .int v4, .int v5], []) ((mx_u h.1 32 s1.toNatClampNeg (s2 ^^^ 1)), h.2.1, h.2.2) else none := by
  refine Eq.trans (q_iconst (x := 1) dX1_mix_150 rfl) ?_
  refine Eq.trans (q_ixor dX1_mix_151) ?_
  refine Eq.trans (q_st (w := 0) (by decide) dX1_mix_152 (as_32 _ _ _)) (q_ite ?_)
  rfl
theorem e_X1_mix_153 (v1 : Option Nat) (v2 : Int32) (v3 : Int32) (v4 : Int32) (v5 : Int32) (h : mx_H)  : mx_D (12, mm_X1_mix, 153, [.ref 28, mx_rf v1, .int v2, .int v3, .int v4, .int v5], []) h = mx_D (12, mm_X1_mix, 3, [.ref 28, mx_rf v1, .int v2, .int v3, .int v4, .int (v5 + 1)], []) h := by
  refine Eq.trans (q_iinc (x' := 1) (L' := [.ref 28, mx_rf v1, .int v2, .int v3, .int v4, .int (v5 + 1)]) dX1_mix_153 rfl rfl rfl) ?_
  refine Eq.trans (q_goto 3 dX1_mix_156 rfl) ?_
  rfl
theorem e_X1_loadLeft_0 (v1 : Int32) (v2 : Int32) (h : mx_H)  : mx_D (2, mm_X1_loadLeft, 0, [.ref 28, .int v1, .int v2, mx_junk], []) h = mx_D (2, mm_X1_loadLeft, 2, [.ref 28, .int v1, .int v2, .int 0], []) h := by
  refine Eq.trans (q_iconst (x := 0) dX1_loadLeft_0 rfl) ?_
  refine Eq.trans (q_istore_n (L' := [.ref 28, .int v1, .int v2, .int 0]) dX1_loadLeft_1 (Nat.le_of_ble_eq_true rfl) rfl) ?_
  rfl
theorem c_X1_loadLeft (v1 : Int32) (v2 : Int32) (h : mx_H) : mx_C mm_X1_loadLeft [.ref 28, .int v1, .int v2] h = mx_D (2, mm_X1_loadLeft, 0, [.ref 28, .int v1, .int v2, mx_junk], []) h := rfl
theorem e_X1_loadLeft_2 (v1 : Int32) (v2 : Int32) (v3 : Int32) (h : mx_H)  : mx_D (2, mm_X1_loadLeft, 2, [.ref 28, .int v1, .int v2, .int v3], []) h = if v2 ≤ v3 then some (none, h) else ((mx_C mm_X1_bitOf [.ref 28, .int v1, .int v3] h).bind (fun o => mx_D (2, mm_X1_loadLeft, 18, [.ref 28, .int v1, .int v2, .int v3], o.1.toList ++ [.int v3, .ref 30]) o.2)) := by
  refine Eq.trans (q_iload_n dX1_loadLeft_2 rfl) ?_
  refine Eq.trans (q_iload_n dX1_loadLeft_3 rfl) ?_
  refine Eq.trans (q_icmp_ge 25 dX1_loadLeft_4 rfl) (q_ite2 ?_ ?_)
  · exact q_retV dX1_loadLeft_25 rfl
  · refine Eq.trans (q_aload_n dX1_loadLeft_7 rfl rfl) ?_
    refine Eq.trans (q_getf dX1_loadLeft_8 mx_fld_1_15 (gf_28_4 _)) ?_
    refine Eq.trans (q_iload_n dX1_loadLeft_11 rfl) ?_
    refine Eq.trans (q_aload_n dX1_loadLeft_12 rfl rfl) ?_
    refine Eq.trans (q_iload_n dX1_loadLeft_13 rfl) ?_
    refine Eq.trans (q_iload_n dX1_loadLeft_14 rfl) ?_
    exact q_call0 (as := [.int v1, .int v3]) (rest := [.int v3, .ref 30]) dX1_loadLeft_15 mx_inv_1_54 rfl rfl rfl ⟨Nat.le_of_ble_eq_true rfl, Nat.le_of_ble_eq_true rfl, (Nat.le_of_ble_eq_true rfl)⟩
theorem e_X1_loadLeft_18 (v1 : Int32) (v2 : Int32) (v3 : Int32) (s1 : Int32) (s2 : Int32) (h : mx_H)  : mx_D (2, mm_X1_loadLeft, 18, [.ref 28, .int v1, .int v2, .int v3], [.int s2, .int s1, .ref 30]) h = if mx_in s1 4 = true then mx_D (2, mm_X1_loadLeft, 2, [.ref 28, .int v1, .int v2, .int (v3 + 1)], []) ((mx_u h.1 30 s1.toNatClampNeg s2), h.2.1, h.2.2) else none := by
  refine Eq.trans (q_st (w := 0) (by decide) dX1_loadLeft_18 (as_30 _ _ _)) (q_ite ?_)
  refine Eq.trans (q_iinc (x' := 1) (L' := [.ref 28, .int v1, .int v2, .int (v3 + 1)]) dX1_loadLeft_19 rfl rfl rfl) ?_
  refine Eq.trans (q_goto 2 dX1_loadLeft_22 rfl) ?_
  rfl
theorem e_X1_loadRight_0 (v1 : Int32) (v2 : Int32) (v3 : Int32) (h : mx_H)  : mx_D (2, mm_X1_loadRight, 0, [.ref 28, .int v1, .int v2, .int v3, mx_junk], []) h = mx_D (2, mm_X1_loadRight, 3, [.ref 28, .int v1, .int v2, .int v3, .int 0], []) h := by
  refine Eq.trans (q_iconst (x := 0) dX1_loadRight_0 rfl) ?_
  refine Eq.trans (q_istore (L' := [.ref 28, .int v1, .int v2, .int v3, .int 0]) dX1_loadRight_1 (Nat.le_of_ble_eq_true rfl) rfl) ?_
  rfl
theorem c_X1_loadRight (v1 : Int32) (v2 : Int32) (v3 : Int32) (h : mx_H) : mx_C mm_X1_loadRight [.ref 28, .int v1, .int v2, .int v3] h = mx_D (2, mm_X1_loadRight, 0, [.ref 28, .int v1, .int v2, .int v3, mx_junk], []) h := rfl
theorem e_X1_loadRight_3 (v1 : Int32) (v2 : Int32) (v3 : Int32) (v4 : Int32) (h : mx_H)  : mx_D (2, mm_X1_loadRight, 3, [.ref 28, .int v1, .int v2, .int v3, .int v4], []) h = if v2 ≤ v4 then some (none, h) else (if v3 = 0 then (mx_C mm_X1_bitOf [.ref 28, .int v1, .int v4] h).bind (fun o => mx_D (2, mm_X1_loadRight, 38, [.ref 28, .int v1, .int v2, .int v3, .int v4], o.1.toList ++ [.int v4, .ref 31]) o.2) else ((mx_C mm_X1_bitOf [.ref 28, .int v1, .int v4] h).bind (fun o => mx_D (2, mm_X1_loadRight, 26, [.ref 28, .int v1, .int v2, .int v3, .int v4], o.1.toList ++ [.int v4, .ref 31]) o.2))) := by
  refine Eq.trans (q_iload dX1_loadRight_3 rfl) ?_
  refine Eq.trans (q_iload_n dX1_loadRight_5 rfl) ?_
  refine Eq.trans (q_icmp_ge 45 dX1_loadRight_6 rfl) (q_ite2 ?_ ?_)
  · exact q_retV dX1_loadRight_45 rfl
  · refine Eq.trans (q_aload_n dX1_loadRight_9 rfl rfl) ?_
    refine Eq.trans (q_getf dX1_loadRight_10 mx_fld_1_18 (gf_28_5 _)) ?_
    refine Eq.trans (q_iload dX1_loadRight_13 rfl) ?_
    refine Eq.trans (q_iload_n dX1_loadRight_15 rfl) ?_
    refine Eq.trans (q_if_eq 31 dX1_loadRight_16 rfl) (q_ite2 ?_ ?_)
    · refine Eq.trans (q_aload_n dX1_loadRight_31 rfl rfl) ?_
      refine Eq.trans (q_iload_n dX1_loadRight_32 rfl) ?_
      refine Eq.trans (q_iload dX1_loadRight_33 rfl) ?_
      exact q_call0 (as := [.int v1, .int v4]) (rest := [.int v4, .ref 31]) dX1_loadRight_35 mx_inv_1_54 rfl rfl rfl ⟨Nat.le_of_ble_eq_true rfl, Nat.le_of_ble_eq_true rfl, (Nat.le_of_ble_eq_true rfl)⟩
    · refine Eq.trans (q_aload_n dX1_loadRight_19 rfl rfl) ?_
      refine Eq.trans (q_iload_n dX1_loadRight_20 rfl) ?_
      refine Eq.trans (q_iload dX1_loadRight_21 rfl) ?_
      exact q_call0 (as := [.int v1, .int v4]) (rest := [.int v4, .ref 31]) dX1_loadRight_23 mx_inv_1_54 rfl rfl rfl ⟨Nat.le_of_ble_eq_true rfl, Nat.le_of_ble_eq_true rfl, (Nat.le_of_ble_eq_true rfl)⟩
theorem e_X1_loadRight_26 (v1 : Int32) (v2 : Int32) (v3 : Int32) (v4 : Int32) (s1 : Int32) (s2 : Int32) (h : mx_H)  : mx_D (2, mm_X1_loadRight, 26, [.ref 28, .int v1, .int v2, .int v3, .int v4], [.int s2, .int s1, .ref 31]) h = mx_D (2, mm_X1_loadRight, 38, [.ref 28, .int v1, .int v2, .int v3, .int v4], [.int (s2 ^^^ 1), .int s1, .ref 31]) h := by
  refine Eq.trans (q_iconst (x := 1) dX1_loadRight_26 rfl) ?_
  refine Eq.trans (q_ixor dX1_loadRight_27) ?_
  refine Eq.trans (q_goto 38 dX1_loadRight_28 rfl) ?_
  rfl
theorem e_X1_loadRight_38 (v1 : Int32) (v2 : Int32) (v3 : Int32) (v4 : Int32) (s1 : Int32) (s2 : Int32) (h : mx_H)  : mx_D (2, mm_X1_loadRight, 38, [.ref 28, .int v1, .int v2, .int v3, .int v4], [.int s2, .int s1, .ref 31]) h = if mx_in s1 4 = true then mx_D (2, mm_X1_loadRight, 3, [.ref 28, .int v1, .int v2, .int v3, .int (v4 + 1)], []) ((mx_u h.1 31 s1.toNatClampNeg s2), h.2.1, h.2.2) else none := by
  refine Eq.trans (q_st (w := 0) (by decide) dX1_loadRight_38 (as_31 _ _ _)) (q_ite ?_)
  refine Eq.trans (q_iinc (x' := 1) (L' := [.ref 28, .int v1, .int v2, .int v3, .int (v4 + 1)]) dX1_loadRight_39 rfl rfl rfl) ?_
  refine Eq.trans (q_goto 3 dX1_loadRight_42 rfl) ?_
  rfl
theorem e_X1_add_0 (v1 : Int32) (v2 : Int32) (h : mx_H)  : mx_D (4, mm_X1_add, 0, [.ref 28, .int v1, .int v2, mx_junk, mx_junk, mx_junk], []) h = mx_D (4, mm_X1_add, 5, [.ref 28, .int v1, .int v2, .int v2, .int 0, mx_junk], []) h := by
  refine Eq.trans (q_iload_n dX1_add_0 rfl) ?_
  refine Eq.trans (q_istore_n (L' := [.ref 28, .int v1, .int v2, .int v2, mx_junk, mx_junk]) dX1_add_1 (Nat.le_of_ble_eq_true rfl) rfl) ?_
  refine Eq.trans (q_iconst (x := 0) dX1_add_2 rfl) ?_
  refine Eq.trans (q_istore (L' := [.ref 28, .int v1, .int v2, .int v2, .int 0, mx_junk]) dX1_add_3 (Nat.le_of_ble_eq_true rfl) rfl) ?_
  rfl
theorem c_X1_add (v1 : Int32) (v2 : Int32) (h : mx_H) : mx_C mm_X1_add [.ref 28, .int v1, .int v2] h = mx_D (4, mm_X1_add, 0, [.ref 28, .int v1, .int v2, mx_junk, mx_junk, mx_junk], []) h := rfl
theorem e_X1_add_5 (v1 : Int32) (v2 : Int32) (v3 : Int32) (v4 : Int32) (v5 : Value) (h : mx_H)  : mx_D (4, mm_X1_add, 5, [.ref 28, .int v1, .int v2, .int v3, .int v4, v5], []) h = if v1 ≤ v4 then some (some (.int v3), h) else (if mx_in v4 4 = true then if mx_in v4 4 = true then (mx_C mm_X3_xor [.ref 22, .int (h.1 30 v4.toNatClampNeg), .int (h.1 31 v4.toNatClampNeg)] h).bind (fun o => mx_D (4, mm_X1_add, 32, [.ref 28, .int v1, .int v2, .int v3, .int v4, v5], o.1.toList ++ []) o.2) else none else none) := by
  refine Eq.trans (q_iload dX1_add_5 rfl) ?_
  refine Eq.trans (q_iload_n dX1_add_7 rfl) ?_
  refine Eq.trans (q_icmp_ge 75 dX1_add_8 rfl) (q_ite2 ?_ ?_)
  · refine Eq.trans (q_iload_n dX1_add_75 rfl) ?_
    exact q_retI dX1_add_76 rfl
  · refine Eq.trans (q_aload_n dX1_add_11 rfl rfl) ?_
    refine Eq.trans (q_getf dX1_add_12 mx_fld_1_28 (gf_28_1 _)) ?_
    refine Eq.trans (q_aload_n dX1_add_15 rfl rfl) ?_
    refine Eq.trans (q_getf dX1_add_16 mx_fld_1_15 (gf_28_4 _)) ?_
    refine Eq.trans (q_iload dX1_add_19 rfl) ?_
    refine Eq.trans (q_ld (w := 0) (by decide) dX1_add_21 (al_30 _ _)) (q_ite ?_)
    refine Eq.trans (q_aload_n dX1_add_22 rfl rfl) ?_
    refine Eq.trans (q_getf dX1_add_23 mx_fld_1_18 (gf_28_5 _)) ?_
    refine Eq.trans (q_iload dX1_add_26 rfl) ?_
    refine Eq.trans (q_ld (w := 0) (by decide) dX1_add_28 (al_31 _ _)) (q_ite ?_)
    exact q_call0 (as := [.int (h.1 30 v4.toNatClampNeg), .int (h.1 31 v4.toNatClampNeg)]) (rest := []) dX1_add_29 mx_inv_1_133 rfl rfl rfl ⟨Nat.le_of_ble_eq_true rfl, Nat.le_of_ble_eq_true rfl, (Nat.le_of_ble_eq_true rfl)⟩
theorem e_X1_add_32 (v1 : Int32) (v2 : Int32) (v3 : Int32) (v4 : Int32) (v5 : Value) (s0 : Int32) (h : mx_H)  : mx_D (4, mm_X1_add, 32, [.ref 28, .int v1, .int v2, .int v3, .int v4, v5], [.int s0]) h = (mx_C mm_X3_xor [.ref 22, .int s0, .int v3] h).bind (fun o => mx_D (4, mm_X1_add, 50, [.ref 28, .int v1, .int v2, .int v3, .int v4, .int s0], o.1.toList ++ [.int v4, .ref 32]) o.2) := by
  refine Eq.trans (q_istore (L' := [.ref 28, .int v1, .int v2, .int v3, .int v4, .int s0]) dX1_add_32 (Nat.le_of_ble_eq_true rfl) rfl) ?_
  refine Eq.trans (q_aload_n dX1_add_34 rfl rfl) ?_
  refine Eq.trans (q_getf dX1_add_35 mx_fld_1_21 (gf_28_6 _)) ?_
  refine Eq.trans (q_iload dX1_add_38 rfl) ?_
  refine Eq.trans (q_aload_n dX1_add_40 rfl rfl) ?_
  refine Eq.trans (q_getf dX1_add_41 mx_fld_1_28 (gf_28_1 _)) ?_
  refine Eq.trans (q_iload dX1_add_44 rfl) ?_
  refine Eq.trans (q_iload_n dX1_add_46 rfl) ?_
  exact q_call0 (as := [.int s0, .int v3]) (rest := [.int v4, .ref 32]) dX1_add_47 mx_inv_1_133 rfl rfl rfl ⟨Nat.le_of_ble_eq_true rfl, Nat.le_of_ble_eq_true rfl, (Nat.le_of_ble_eq_true rfl)⟩
