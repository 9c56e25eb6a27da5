theorem e_X1_add_50 (v1 : Int32) (v2 : Int32) (v3 : Int32) (v4 : Int32) (v5 : Int32) (s1 : Int32) (s2 : Int32) (h : mx_H)  : mx_D (4, mm_X1_add, 50, [.ref 28, .int v1, .int v2, .int v3, .int v4, .int v5], [.int s2, .int s1, .ref 32]) h = if mx_in s1 4 = true then if mx_in v4 4 = true then (mx_C mm_X3_mux [.ref 22, .int v5, .int v3, .int ((mx_u h.1 32 s1.toNatClampNeg s2) 30 v4.toNatClampNeg)] ((mx_u h.1 32 s1.toNatClampNeg s2), h.2.1, h.2.2)).bind (fun o => mx_D (4, mm_X1_add, 68, [.ref 28, .int v1, .int v2, .int v3, .int v4, .int v5], o.1.toList ++ []) o.2) else none else none := by
  refine Eq.trans (q_st (w := 0) (by decide) dX1_add_50 (as_32 _ _ _)) (q_ite ?_)
  refine Eq.trans (q_aload_n dX1_add_51 rfl rfl) ?_
  refine Eq.trans (q_getf dX1_add_52 mx_fld_1_28 (gf_28_1 _)) ?_
  refine Eq.trans (q_iload dX1_add_55 rfl) ?_
  refine Eq.trans (q_iload_n dX1_add_57 rfl) ?_
  refine Eq.trans (q_aload_n dX1_add_58 rfl rfl) ?_
  refine Eq.trans (q_getf dX1_add_59 mx_fld_1_15 (gf_28_4 _)) ?_
  refine Eq.trans (q_iload dX1_add_62 rfl) ?_
  refine Eq.trans (q_ld (w := 0) (by decide) dX1_add_64 (al_30 _ _)) (q_ite ?_)
  exact q_call0 (as := [.int v5, .int v3, .int ((mx_u h.1 32 s1.toNatClampNeg s2) 30 v4.toNatClampNeg)]) (rest := []) dX1_add_65 mx_inv_1_136 rfl rfl rfl ⟨Nat.le_of_ble_eq_true rfl, Nat.le_of_ble_eq_true rfl, (Nat.le_of_ble_eq_true rfl)⟩
theorem e_X1_add_68 (v1 : Int32) (v2 : Int32) (v3 : Int32) (v4 : Int32) (v5 : Int32) (s0 : Int32) (h : mx_H)  : mx_D (4, mm_X1_add, 68, [.ref 28, .int v1, .int v2, .int v3, .int v4, .int v5], [.int s0]) h = mx_D (4, mm_X1_add, 5, [.ref 28, .int v1, .int v2, .int s0, .int (v4 + 1), .int v5], []) h := by
  refine Eq.trans (q_istore_n (L' := [.ref 28, .int v1, .int v2, .int s0, .int v4, .int v5]) dX1_add_68 (Nat.le_of_ble_eq_true rfl) rfl) ?_
  refine Eq.trans (q_iinc (x' := 1) (L' := [.ref 28, .int v1, .int v2, .int s0, .int (v4 + 1), .int v5]) dX1_add_69 rfl rfl rfl) ?_
  refine Eq.trans (q_goto 5 dX1_add_72 rfl) ?_
  rfl
theorem e_X1_multiply_0 (v1 : Int32) (v2 : Int32) (v3 : Int32) (h : mx_H)  : mx_D (5, mm_X1_multiply, 0, [.ref 28, .int v1, .int v2, .int v3, mx_junk, mx_junk], []) h = (mx_C mm_X1_loadLeft [.ref 28, .int ((-1)), .int v3] h).bind (fun o => mx_D (5, mm_X1_multiply, 6, [.ref 28, .int v1, .int v2, .int v3, mx_junk, mx_junk], o.1.toList ++ []) o.2) := by
  refine Eq.trans (q_aload_n dX1_multiply_0 rfl rfl) ?_
  refine Eq.trans (q_iconst (x := (-1)) dX1_multiply_1 rfl) ?_
  refine Eq.trans (q_iload_n dX1_multiply_2 rfl) ?_
  exact q_call0 (as := [.int ((-1)), .int v3]) (rest := []) dX1_multiply_3 mx_inv_1_166 rfl rfl rfl ⟨Nat.le_of_ble_eq_true rfl, Nat.le_of_ble_eq_true rfl, (Nat.le_of_ble_eq_true rfl)⟩
theorem c_X1_multiply (v1 : Int32) (v2 : Int32) (v3 : Int32) (h : mx_H) : mx_C mm_X1_multiply [.ref 28, .int v1, .int v2, .int v3] h = mx_D (5, mm_X1_multiply, 0, [.ref 28, .int v1, .int v2, .int v3, mx_junk, mx_junk], []) h := rfl
theorem e_X1_multiply_6 (v1 : Int32) (v2 : Int32) (v3 : Int32) (h : mx_H)  : mx_D (5, mm_X1_multiply, 6, [.ref 28, .int v1, .int v2, .int v3, mx_junk, mx_junk], []) h = mx_D (5, mm_X1_multiply, 9, [.ref 28, .int v1, .int v2, .int v3, .int 0, mx_junk], []) h := by
  refine Eq.trans (q_iconst (x := 0) dX1_multiply_6 rfl) ?_
  refine Eq.trans (q_istore (L' := [.ref 28, .int v1, .int v2, .int v3, .int 0, mx_junk]) dX1_multiply_7 (Nat.le_of_ble_eq_true rfl) rfl) ?_
  rfl
theorem e_X1_multiply_9 (v1 : Int32) (v2 : Int32) (v3 : Int32) (v4 : Int32) (v5 : Value) (h : mx_H)  : mx_D (5, mm_X1_multiply, 9, [.ref 28, .int v1, .int v2, .int v3, .int v4, v5], []) h = if v3 ≤ v4 then some (none, h) else (mx_D (5, mm_X1_multiply, 18, [.ref 28, .int v1, .int v2, .int v3, .int v4, .int 0], []) h) := by
  refine Eq.trans (q_iload dX1_multiply_9 rfl) ?_
  refine Eq.trans (q_iload_n dX1_multiply_11 rfl) ?_
  refine Eq.trans (q_icmp_ge 114 dX1_multiply_12 rfl) (q_ite2 ?_ ?_)
  · exact q_retV dX1_multiply_114 rfl
  · refine Eq.trans (q_iconst (x := 0) dX1_multiply_15 rfl) ?_
    refine Eq.trans (q_istore (L' := [.ref 28, .int v1, .int v2, .int v3, .int v4, .int 0]) dX1_multiply_16 (Nat.le_of_ble_eq_true rfl) rfl) ?_
    rfl
theorem e_X1_multiply_18 (v1 : Int32) (v2 : Int32) (v3 : Int32) (v4 : Int32) (v5 : Int32) (h : mx_H)  : mx_D (5, mm_X1_multiply, 18, [.ref 28, .int v1, .int v2, .int v3, .int v4, .int v5], []) h = if v3 ≤ v5 then (mx_C mm_X1_add [.ref 28, .int v3, .int 1] h).bind (fun o => mx_D (5, mm_X1_multiply, 78, [.ref 28, .int v1, .int v2, .int v3, .int v4, .int v5], o.1.toList ++ []) o.2) else (if v4 ≤ v5 then (mx_C mm_X1_bitOf [.ref 28, .int v1, .int (v5 - v4)] h).bind (fun o => mx_D (5, mm_X1_multiply, 55, [.ref 28, .int v1, .int v2, .int v3, .int v4, .int v5], o.1.toList ++ [.ref 22, .int v5, .ref 31]) o.2) else (mx_D (5, mm_X1_multiply, 65, [.ref 28, .int v1, .int v2, .int v3, .int v4, .int v5], [.int 1, .int v5, .ref 31]) h)) := by
  refine Eq.trans (q_iload dX1_multiply_18 rfl) ?_
  refine Eq.trans (q_iload_n dX1_multiply_20 rfl) ?_
  refine Eq.trans (q_icmp_ge 72 dX1_multiply_21 rfl) (q_ite2 ?_ ?_)
  · refine Eq.trans (q_aload_n dX1_multiply_72 rfl rfl) ?_
    refine Eq.trans (q_iload_n dX1_multiply_73 rfl) ?_
    refine Eq.trans (q_iconst (x := 1) dX1_multiply_74 rfl) ?_
    exact q_call0 (as := [.int v3, .int 1]) (rest := []) dX1_multiply_75 mx_inv_1_173 rfl rfl rfl ⟨Nat.le_of_ble_eq_true rfl, Nat.le_of_ble_eq_true rfl, (Nat.le_of_ble_eq_true rfl)⟩
  · refine Eq.trans (q_aload_n dX1_multiply_24 rfl rfl) ?_
    refine Eq.trans (q_getf dX1_multiply_25 mx_fld_1_18 (gf_28_5 _)) ?_
    refine Eq.trans (q_iload dX1_multiply_28 rfl) ?_
    refine Eq.trans (q_iload dX1_multiply_30 rfl) ?_
    refine Eq.trans (q_iload dX1_multiply_32 rfl) ?_
    refine Eq.trans (q_icmp_ge 41 dX1_multiply_34 rfl) (q_ite2 ?_ ?_)
    · refine Eq.trans (q_aload_n dX1_multiply_41 rfl rfl) ?_
      refine Eq.trans (q_getf dX1_multiply_42 mx_fld_1_28 (gf_28_1 _)) ?_
      refine Eq.trans (q_aload_n dX1_multiply_45 rfl rfl) ?_
      refine Eq.trans (q_iload_n dX1_multiply_46 rfl) ?_
      refine Eq.trans (q_iload dX1_multiply_47 rfl) ?_
      refine Eq.trans (q_iload dX1_multiply_49 rfl) ?_
      refine Eq.trans (q_isub dX1_multiply_51) ?_
      exact q_call0 (as := [.int v1, .int (v5 - v4)]) (rest := [.ref 22, .int v5, .ref 31]) dX1_multiply_52 mx_inv_1_54 rfl rfl rfl ⟨Nat.le_of_ble_eq_true rfl, Nat.le_of_ble_eq_true rfl, (Nat.le_of_ble_eq_true rfl)⟩
    · refine Eq.trans (q_iconst (x := 1) dX1_multiply_37 rfl) ?_
      refine Eq.trans (q_goto 65 dX1_multiply_38 rfl) ?_
      rfl
theorem e_X1_multiply_55 (v1 : Int32) (v2 : Int32) (v3 : Int32) (v4 : Int32) (v5 : Int32) (s1 : Int32) (s3 : Int32) (h : mx_H)  : mx_D (5, mm_X1_multiply, 55, [.ref 28, .int v1, .int v2, .int v3, .int v4, .int v5], [.int s3, .ref 22, .int s1, .ref 31]) h = (mx_C mm_X1_bitOf [.ref 28, .int v2, .int v4] h).bind (fun o => mx_D (5, mm_X1_multiply, 62, [.ref 28, .int v1, .int v2, .int v3, .int v4, .int v5], o.1.toList ++ [.int s3, .ref 22, .int s1, .ref 31]) o.2) := by
  refine Eq.trans (q_aload_n dX1_multiply_55 rfl rfl) ?_
  refine Eq.trans (q_iload_n dX1_multiply_56 rfl) ?_
  refine Eq.trans (q_iload dX1_multiply_57 rfl) ?_
  exact q_call0 (as := [.int v2, .int v4]) (rest := [.int s3, .ref 22, .int s1, .ref 31]) dX1_multiply_59 mx_inv_1_54 rfl rfl rfl ⟨Nat.le_of_ble_eq_true rfl, Nat.le_of_ble_eq_true rfl, (Nat.le_of_ble_eq_true rfl)⟩
theorem e_X1_multiply_62 (v1 : Int32) (v2 : Int32) (v3 : Int32) (v4 : Int32) (v5 : Int32) (s1 : Int32) (s3 : Int32) (s4 : Int32) (h : mx_H)  : mx_D (5, mm_X1_multiply, 62, [.ref 28, .int v1, .int v2, .int v3, .int v4, .int v5], [.int s4, .int s3, .ref 22, .int s1, .ref 31]) h = (mx_C mm_X3_and [.ref 22, .int s3, .int s4] h).bind (fun o => mx_D (5, mm_X1_multiply, 65, [.ref 28, .int v1, .int v2, .int v3, .int v4, .int v5], o.1.toList ++ [.int s1, .ref 31]) o.2) := by
  exact q_call0 (as := [.int s3, .int s4]) (rest := [.int s1, .ref 31]) dX1_multiply_62 mx_inv_1_125 rfl rfl rfl ⟨Nat.le_of_ble_eq_true rfl, Nat.le_of_ble_eq_true rfl, (Nat.le_of_ble_eq_true rfl)⟩
theorem e_X1_multiply_65 (v1 : Int32) (v2 : Int32) (v3 : Int32) (v4 : Int32) (v5 : Int32) (s1 : Int32) (s2 : Int32) (h : mx_H)  : mx_D (5, mm_X1_multiply, 65, [.ref 28, .int v1, .int v2, .int v3, .int v4, .int v5], [.int s2, .int s1, .ref 31]) h = if mx_in s1 4 = true then mx_D (5, mm_X1_multiply, 18, [.ref 28, .int v1, .int v2, .int v3, .int v4, .int (v5 + 1)], []) ((mx_u h.1 31 s1.toNatClampNeg s2), h.2.1, h.2.2) else none := by
  refine Eq.trans (q_st (w := 0) (by decide) dX1_multiply_65 (as_31 _ _ _)) (q_ite ?_)
  refine Eq.trans (q_iinc (x' := 1) (L' := [.ref 28, .int v1, .int v2, .int v3, .int v4, .int (v5 + 1)]) dX1_multiply_66 rfl rfl rfl) ?_
  refine Eq.trans (q_goto 18 dX1_multiply_69 rfl) ?_
  rfl
theorem e_X1_multiply_78 (v1 : Int32) (v2 : Int32) (v3 : Int32) (v4 : Int32) (v5 : Int32) (s0 : Int32) (h : mx_H)  : mx_D (5, mm_X1_multiply, 78, [.ref 28, .int v1, .int v2, .int v3, .int v4, .int v5], [.int s0]) h = mx_D (5, mm_X1_multiply, 82, [.ref 28, .int v1, .int v2, .int v3, .int v4, .int 0], []) h := by
  refine Eq.trans (q_pop dX1_multiply_78 rfl) ?_
  refine Eq.trans (q_iconst (x := 0) dX1_multiply_79 rfl) ?_
  refine Eq.trans (q_istore (L' := [.ref 28, .int v1, .int v2, .int v3, .int v4, .int 0]) dX1_multiply_80 (Nat.le_of_ble_eq_true rfl) rfl) ?_
  rfl
theorem e_X1_multiply_82 (v1 : Int32) (v2 : Int32) (v3 : Int32) (v4 : Int32) (v5 : Int32) (h : mx_H)  : mx_D (5, mm_X1_multiply, 82, [.ref 28, .int v1, .int v2, .int v3, .int v4, .int v5], []) h = if v3 ≤ v5 then mx_D (5, mm_X1_multiply, 9, [.ref 28, .int v1, .int v2, .int v3, .int (v4 + 1), .int v5], []) h else (if mx_in v5 4 = true then if mx_in v5 4 = true then mx_D (5, mm_X1_multiply, 82, [.ref 28, .int v1, .int v2, .int v3, .int v4, .int (v5 + 1)], []) ((mx_u h.1 30 v5.toNatClampNeg (h.1 32 v5.toNatClampNeg)), h.2.1, h.2.2) else none else none) := by
  refine Eq.trans (q_iload dX1_multiply_82 rfl) ?_
  refine Eq.trans (q_iload_n dX1_multiply_84 rfl) ?_
  refine Eq.trans (q_icmp_ge 108 dX1_multiply_85 rfl) (q_ite2 ?_ ?_)
  · refine Eq.trans (q_iinc (x' := 1) (L' := [.ref 28, .int v1, .int v2, .int v3, .int (v4 + 1), .int v5]) dX1_multiply_108 rfl rfl rfl) ?_
    refine Eq.trans (q_goto 9 dX1_multiply_111 rfl) ?_
    rfl
  · refine Eq.trans (q_aload_n dX1_multiply_88 rfl rfl) ?_
    refine Eq.trans (q_getf dX1_multiply_89 mx_fld_1_15 (gf_28_4 _)) ?_
    refine Eq.trans (q_iload dX1_multiply_92 rfl) ?_
    refine Eq.trans (q_aload_n dX1_multiply_94 rfl rfl) ?_
    refine Eq.trans (q_getf dX1_multiply_95 mx_fld_1_21 (gf_28_6 _)) ?_
    refine Eq.trans (q_iload dX1_multiply_98 rfl) ?_
    refine Eq.trans (q_ld (w := 0) (by decide) dX1_multiply_100 (al_32 _ _)) (q_ite ?_)
    refine Eq.trans (q_st (w := 0) (by decide) dX1_multiply_101 (as_30 _ _ _)) (q_ite ?_)
    refine Eq.trans (q_iinc (x' := 1) (L' := [.ref 28, .int v1, .int v2, .int v3, .int v4, .int (v5 + 1)]) dX1_multiply_102 rfl rfl rfl) ?_
    refine Eq.trans (q_goto 82 dX1_multiply_105 rfl) ?_
    rfl
theorem e_X1_divide_0 (v1 : Option Nat) (v2 : Int32) (v3 : Int32) (v4 : Int32) (h : mx_H)  : mx_D (5, mm_X1_divide, 0, [.ref 28, mx_rf v1, .int v2, .int v3, .int v4, mx_junk, mx_junk, mx_junk], []) h = (mx_C mm_X1_loadLeft [.ref 28, .int ((-1)), .int v4] h).bind (fun o => mx_D (5, mm_X1_divide, 7, [.ref 28, mx_rf v1, .int v2, .int v3, .int v4, mx_junk, mx_junk, mx_junk], o.1.toList ++ []) o.2) := by
  refine Eq.trans (q_aload_n dX1_divide_0 rfl rfl) ?_
  refine Eq.trans (q_iconst (x := (-1)) dX1_divide_1 rfl) ?_
  refine Eq.trans (q_iload dX1_divide_2 rfl) ?_
  exact q_call0 (as := [.int ((-1)), .int v4]) (rest := []) dX1_divide_4 mx_inv_1_166 rfl rfl rfl ⟨Nat.le_of_ble_eq_true rfl, Nat.le_of_ble_eq_true rfl, (Nat.le_of_ble_eq_true rfl)⟩
theorem c_X1_divide (v1 : Option Nat) (v2 : Int32) (v3 : Int32) (v4 : Int32) (h : mx_H) : mx_C mm_X1_divide [.ref 28, mx_rf v1, .int v2, .int v3, .int v4] h = mx_D (5, mm_X1_divide, 0, [.ref 28, mx_rf v1, .int v2, .int v3, .int v4, mx_junk, mx_junk, mx_junk], []) h := (by cases v1 <;> exact rfl)
theorem e_X1_divide_7 (v1 : Option Nat) (v2 : Int32) (v3 : Int32) (v4 : Int32) (h : mx_H)  : mx_D (5, mm_X1_divide, 7, [.ref 28, mx_rf v1, .int v2, .int v3, .int v4, mx_junk, mx_junk, mx_junk], []) h = (mx_C mm_X1_loadRight [.ref 28, .int v3, .int v4, .int 1] h).bind (fun o => mx_D (5, mm_X1_divide, 15, [.ref 28, mx_rf v1, .int v2, .int v3, .int v4, mx_junk, mx_junk, mx_junk], o.1.toList ++ []) o.2) := by
  refine Eq.trans (q_aload_n dX1_divide_7 rfl rfl) ?_
  refine Eq.trans (q_iload_n dX1_divide_8 rfl) ?_
  refine Eq.trans (q_iload dX1_divide_9 rfl) ?_
  refine Eq.trans (q_iconst (x := 1) dX1_divide_11 rfl) ?_
  exact q_call0 (as := [.int v3, .int v4, .int 1]) (rest := []) dX1_divide_12 mx_inv_1_169 rfl rfl rfl ⟨Nat.le_of_ble_eq_true rfl, Nat.le_of_ble_eq_true rfl, (Nat.le_of_ble_eq_true rfl)⟩
theorem e_X1_divide_15 (v1 : Option Nat) (v2 : Int32) (v3 : Int32) (v4 : Int32) (h : mx_H)  : mx_D (5, mm_X1_divide, 15, [.ref 28, mx_rf v1, .int v2, .int v3, .int v4, mx_junk, mx_junk, mx_junk], []) h = mx_D (5, mm_X1_divide, 21, [.ref 28, mx_rf v1, .int v2, .int v3, .int v4, .int (v4 - 1), mx_junk, mx_junk], []) h := by
  refine Eq.trans (q_iload dX1_divide_15 rfl) ?_
  refine Eq.trans (q_iconst (x := 1) dX1_divide_17 rfl) ?_
  refine Eq.trans (q_isub dX1_divide_18) ?_
  refine Eq.trans (q_istore (L' := [.ref 28, mx_rf v1, .int v2, .int v3, .int v4, .int (v4 - 1), mx_junk, mx_junk]) dX1_divide_19 (Nat.le_of_ble_eq_true rfl) rfl) ?_
  rfl
theorem e_X1_divide_21 (v1 : Option Nat) (v2 : Int32) (v3 : Int32) (v4 : Int32) (v5 : Int32) (v6 : Value) (v7 : Value) (h : mx_H)  : mx_D (5, mm_X1_divide, 21, [.ref 28, mx_rf v1, .int v2, .int v3, .int v4, .int v5, v6, v7], []) h = if v5 < 0 then mx_D (5, mm_X1_divide, 151, [.ref 28, mx_rf v1, .int v2, .int v3, .int v4, .int 0, v6, v7], []) h else (mx_D (5, mm_X1_divide, 32, [.ref 28, mx_rf v1, .int v2, .int v3, .int v4, .int v5, .int (v4 - 1), v7], []) h) := by
  refine Eq.trans (q_iload dX1_divide_21 rfl) ?_
  refine Eq.trans (q_if_lt 148 dX1_divide_23 rfl) (q_ite2 ?_ ?_)
  · refine Eq.trans (q_iconst (x := 0) dX1_divide_148 rfl) ?_
    refine Eq.trans (q_istore (L' := [.ref 28, mx_rf v1, .int v2, .int v3, .int v4, .int 0, v6, v7]) dX1_divide_149 (Nat.le_of_ble_eq_true rfl) rfl) ?_
    rfl
  · refine Eq.trans (q_iload dX1_divide_26 rfl) ?_
    refine Eq.trans (q_iconst (x := 1) dX1_divide_28 rfl) ?_
    refine Eq.trans (q_isub dX1_divide_29) ?_
    refine Eq.trans (q_istore (L' := [.ref 28, mx_rf v1, .int v2, .int v3, .int v4, .int v5, .int (v4 - 1), v7]) dX1_divide_30 (Nat.le_of_ble_eq_true rfl) rfl) ?_
    rfl
theorem e_X1_divide_32 (v1 : Option Nat) (v2 : Int32) (v3 : Int32) (v4 : Int32) (v5 : Int32) (v6 : Int32) (v7 : Value) (h : mx_H)  : mx_D (5, mm_X1_divide, 32, [.ref 28, mx_rf v1, .int v2, .int v3, .int v4, .int v5, .int v6, v7], []) h = if v6 ≤ 0 then (mx_C mm_X1_bitOf [.ref 28, .int v2, .int v5] h).bind (fun o => mx_D (5, mm_X1_divide, 71, [.ref 28, mx_rf v1, .int v2, .int v3, .int v4, .int v5, .int v6, v7], o.1.toList ++ [.int 0, .ref 30]) o.2) else (if mx_in (v6 - 1) 4 = true then if mx_in v6 4 = true then mx_D (5, mm_X1_divide, 32, [.ref 28, mx_rf v1, .int v2, .int v3, .int v4, .int v5, .int (v6 + (-1)), v7], []) ((mx_u h.1 30 v6.toNatClampNeg (h.1 30 ((v6 - 1).toNatClampNeg))), h.2.1, h.2.2) else none else none) := by
  refine Eq.trans (q_iload dX1_divide_32 rfl) ?_
  refine Eq.trans (q_if_le 59 dX1_divide_34 rfl) (q_ite2 ?_ ?_)
  · refine Eq.trans (q_aload_n dX1_divide_59 rfl rfl) ?_
    refine Eq.trans (q_getf dX1_divide_60 mx_fld_1_15 (gf_28_4 _)) ?_
    refine Eq.trans (q_iconst (x := 0) dX1_divide_63 rfl) ?_
    refine Eq.trans (q_aload_n dX1_divide_64 rfl rfl) ?_
    refine Eq.trans (q_iload_n dX1_divide_65 rfl) ?_
    refine Eq.trans (q_iload dX1_divide_66 rfl) ?_
    exact q_call0 (as := [.int v2, .int v5]) (rest := [.int 0, .ref 30]) dX1_divide_68 mx_inv_1_54 rfl rfl rfl ⟨Nat.le_of_ble_eq_true rfl, Nat.le_of_ble_eq_true rfl, (Nat.le_of_ble_eq_true rfl)⟩
  · refine Eq.trans (q_aload_n dX1_divide_37 rfl rfl) ?_
    refine Eq.trans (q_getf dX1_divide_38 mx_fld_1_15 (gf_28_4 _)) ?_
    refine Eq.trans (q_iload dX1_divide_41 rfl) ?_
    refine Eq.trans (q_aload_n dX1_divide_43 rfl rfl) ?_
    refine Eq.trans (q_getf dX1_divide_44 mx_fld_1_15 (gf_28_4 _)) ?_
    refine Eq.trans (q_iload dX1_divide_47 rfl) ?_
    refine Eq.trans (q_iconst (x := 1) dX1_divide_49 rfl) ?_
    refine Eq.trans (q_isub dX1_divide_50) ?_
    refine Eq.trans (q_ld (w := 0) (by decide) dX1_divide_51 (al_30 _ _)) (q_ite ?_)
    refine Eq.trans (q_st (w := 0) (by decide) dX1_divide_52 (as_30 _ _ _)) (q_ite ?_)
    refine Eq.trans (q_iinc (x' := (-1)) (L' := [.ref 28, mx_rf v1, .int v2, .int v3, .int v4, .int v5, .int (v6 + (-1)), v7]) dX1_divide_53 rfl rfl rfl) ?_
    refine Eq.trans (q_goto 32 dX1_divide_56 rfl) ?_
    rfl
theorem e_X1_divide_71 (v1 : Option Nat) (v2 : Int32) (v3 : Int32) (v4 : Int32) (v5 : Int32) (v6 : Int32) (v7 : Value) (s1 : Int32) (s2 : Int32) (h : mx_H)  : mx_D (5, mm_X1_divide, 71, [.ref 28, mx_rf v1, .int v2, .int v3, .int v4, .int v5, .int v6, v7], [.int s2, .int s1, .ref 30]) h = if mx_in s1 4 = true then (mx_C mm_X1_add [.ref 28, .int v4, .int 0] ((mx_u h.1 30 s1.toNatClampNeg s2), h.2.1, h.2.2)).bind (fun o => mx_D (5, mm_X1_divide, 79, [.ref 28, mx_rf v1, .int v2, .int v3, .int v4, .int v5, .int v6, v7], o.1.toList ++ []) o.2) else none := by
  refine Eq.trans (q_st (w := 0) (by decide) dX1_divide_71 (as_30 _ _ _)) (q_ite ?_)
  refine Eq.trans (q_aload_n dX1_divide_72 rfl rfl) ?_
  refine Eq.trans (q_iload dX1_divide_73 rfl) ?_
  refine Eq.trans (q_iconst (x := 0) dX1_divide_75 rfl) ?_
  exact q_call0 (as := [.int v4, .int 0]) (rest := []) dX1_divide_76 mx_inv_1_173 rfl rfl rfl ⟨Nat.le_of_ble_eq_true rfl, Nat.le_of_ble_eq_true rfl, (Nat.le_of_ble_eq_true rfl)⟩
theorem e_X1_divide_79 (v1 : Option Nat) (v2 : Int32) (v3 : Int32) (v4 : Int32) (v5 : Int32) (v6 : Int32) (v7 : Value) (s0 : Int32) (h : mx_H)  : mx_D (5, mm_X1_divide, 79, [.ref 28, mx_rf v1, .int v2, .int v3, .int v4, .int v5, .int v6, v7], [.int s0]) h = mx_D (5, mm_X1_divide, 84, [.ref 28, mx_rf v1, .int v2, .int v3, .int v4, .int v5, .int s0, .int 0], []) h := by
  refine Eq.trans (q_istore (L' := [.ref 28, mx_rf v1, .int v2, .int v3, .int v4, .int v5, .int s0, v7]) dX1_divide_79 (Nat.le_of_ble_eq_true rfl) rfl) ?_
  refine Eq.trans (q_iconst (x := 0) dX1_divide_81 rfl) ?_
  refine Eq.trans (q_istore (L' := [.ref 28, mx_rf v1, .int v2, .int v3, .int v4, .int v5, .int s0, .int 0]) dX1_divide_82 (Nat.le_of_ble_eq_true rfl) rfl) ?_
  rfl
theorem e_X1_divide_84 (v1 : Option Nat) (v2 : Int32) (v3 : Int32) (v4 : Int32) (v5 : Int32) (v6 : Int32) (v7 : Int32) (h : mx_H) (hq0 : mx_wr (mx_rf v1) = true) : mx_D (5, mm_X1_divide, 84, [.ref 28, mx_rf v1, .int v2, .int v3, .int v4, .int v5, .int v6, .int v7], []) h = if v4 ≤ v7 then if (mx_rf v1 : Value) = .ref 1027 then (mx_C mm_X1_set [.ref 28, .int v5, .int v6] h).bind (fun o => mx_D (5, mm_X1_divide, 142, [.ref 28, mx_rf v1, .int v2, .int v3, .int v4, .int v5, .int v6, .int v7], o.1.toList ++ []) o.2) else (mx_D (5, mm_X1_divide, 142, [.ref 28, mx_rf v1, .int v2, .int v3, .int v4, .int v5, .int v6, .int v7], []) h) else (if mx_in v7 4 = true then if mx_in v7 4 = true then (mx_C mm_X3_mux [.ref 22, .int v6, .int (h.1 32 v7.toNatClampNeg), .int (h.1 30 v7.toNatClampNeg)] h).bind (fun o => mx_D (5, mm_X1_divide, 120, [.ref 28, mx_rf v1, .int v2, .int v3, .int v4, .int v5, .int v6, .int v7], o.1.toList ++ [.int v7, .ref 30]) o.2) else none else none) := by
  refine Eq.trans (q_iload dX1_divide_84 rfl) ?_
  refine Eq.trans (q_iload dX1_divide_86 rfl) ?_
  refine Eq.trans (q_icmp_ge 127 dX1_divide_88 rfl) (q_ite2 ?_ ?_)
  · refine Eq.trans (q_aload_n dX1_divide_127 rfl (mx_ar_rf _)) ?_
    refine Eq.trans (q_gets dX1_divide_128 mx_sta_1_188) ?_
    refine Eq.trans (q_acmp_ne 142 dX1_divide_131 hq0 rfl rfl) (q_ite2 ?_ ?_)
    · refine Eq.trans (q_aload_n dX1_divide_134 rfl rfl) ?_
      refine Eq.trans (q_iload dX1_divide_135 rfl) ?_
      refine Eq.trans (q_iload dX1_divide_137 rfl) ?_
      exact q_call0 (as := [.int v5, .int v6]) (rest := []) dX1_divide_139 mx_inv_1_61 rfl rfl rfl ⟨Nat.le_of_ble_eq_true rfl, Nat.le_of_ble_eq_true rfl, (Nat.le_of_ble_eq_true rfl)⟩
    · rfl
  · refine Eq.trans (q_aload_n dX1_divide_91 rfl rfl) ?_
    refine Eq.trans (q_getf dX1_divide_92 mx_fld_1_15 (gf_28_4 _)) ?_
    refine Eq.trans (q_iload dX1_divide_95 rfl) ?_
    refine Eq.trans (q_aload_n dX1_divide_97 rfl rfl) ?_
    refine Eq.trans (q_getf dX1_divide_98 mx_fld_1_28 (gf_28_1 _)) ?_
    refine Eq.trans (q_iload dX1_divide_101 rfl) ?_
    refine Eq.trans (q_aload_n dX1_divide_103 rfl rfl) ?_
    refine Eq.trans (q_getf dX1_divide_104 mx_fld_1_21 (gf_28_6 _)) ?_
    refine Eq.trans (q_iload dX1_divide_107 rfl) ?_
    refine Eq.trans (q_ld (w := 0) (by decide) dX1_divide_109 (al_32 _ _)) (q_ite ?_)
    refine Eq.trans (q_aload_n dX1_divide_110 rfl rfl) ?_
    refine Eq.trans (q_getf dX1_divide_111 mx_fld_1_15 (gf_28_4 _)) ?_
    refine Eq.trans (q_iload dX1_divide_114 rfl) ?_
    refine Eq.trans (q_ld (w := 0) (by decide) dX1_divide_116 (al_30 _ _)) (q_ite ?_)
    exact q_call0 (as := [.int v6, .int (h.1 32 v7.toNatClampNeg), .int (h.1 30 v7.toNatClampNeg)]) (rest := [.int v7, .ref 30]) dX1_divide_117 mx_inv_1_136 rfl rfl rfl ⟨Nat.le_of_ble_eq_true rfl, Nat.le_of_ble_eq_true rfl, (Nat.le_of_ble_eq_true rfl)⟩
theorem e_X1_divide_120 (v1 : Option Nat) (v2 : Int32) (v3 : Int32) (v4 : Int32) (v5 : Int32) (v6 : Int32) (v7 : Int32) (s1 : Int32) (s2 : Int32) (h : mx_H)  : mx_D (5, mm_X1_divide, 120, [.ref 28, mx_rf v1, .int v2, .int v3, .int v4, .int v5, .int v6, .int v7], [.int s2, .int s1, .ref 30]) h = if mx_in s1 4 = true then mx_D (5, mm_X1_divide, 84, [.ref 28, mx_rf v1, .int v2, .int v3, .int v4, .int v5, .int v6, .int (v7 + 1)], []) ((mx_u h.1 30 s1.toNatClampNeg s2), h.2.1, h.2.2) else none := by
  refine Eq.trans (q_st (w := 0) (by decide) dX1_divide_120 (as_30 _ _ _)) (q_ite ?_)
  refine Eq.trans (q_iinc (x' := 1) (L' := [.ref 28, mx_rf v1, .int v2, .int v3, .int v4, .int v5, .int v6, .int (v7 + 1)]) dX1_divide_121 rfl rfl rfl) ?_
  refine Eq.trans (q_goto 84 dX1_divide_124 rfl) ?_
  rfl
theorem e_X1_divide_142 (v1 : Option Nat) (v2 : Int32) (v3 : Int32) (v4 : Int32) (v5 : Int32) (v6 : Int32) (v7 : Int32) (h : mx_H)  : mx_D (5, mm_X1_divide, 142, [.ref 28, mx_rf v1, .int v2, .int v3, .int v4, .int v5, .int v6, .int v7], []) h = mx_D (5, mm_X1_divide, 21, [.ref 28, mx_rf v1, .int v2, .int v3, .int v4, .int (v5 + (-1)), .int v6, .int v7], []) h := by
  refine Eq.trans (q_iinc (x' := (-1)) (L' := [.ref 28, mx_rf v1, .int v2, .int v3, .int v4, .int (v5 + (-1)), .int v6, .int v7]) dX1_divide_142 rfl rfl rfl) ?_
  refine Eq.trans (q_goto 21 dX1_divide_145 rfl) ?_
  rfl
theorem e_X1_divide_151 (v1 : Option Nat) (v2 : Int32) (v3 : Int32) (v4 : Int32) (v5 : Int32) (v6 : Value) (v7 : Value) (h : mx_H) (hq0 : mx_wr (mx_rf v1) = true) : mx_D (5, mm_X1_divide, 151, [.ref 28, mx_rf v1, .int v2, .int v3, .int v4, .int v5, v6, v7], []) h = if v4 ≤ v5 then mx_D (5, mm_X1_divide, 184, [.ref 28, mx_rf v1, .int v2, .int v3, .int v4, .int v5, v6, v7], []) h else (if (mx_rf v1 : Value) = .ref 1028 then if mx_in v5 4 = true then (mx_C mm_X1_set [.ref 28, .int v5, .int (h.1 30 v5.toNatClampNeg)] h).bind (fun o => mx_D (5, mm_X1_divide, 178, [.ref 28, mx_rf v1, .int v2, .int v3, .int v4, .int v5, v6, v7], o.1.toList ++ []) o.2) else none else (mx_D (5, mm_X1_divide, 184, [.ref 28, mx_rf v1, .int v2, .int v3, .int v4, .int v5, v6, v7], []) h)) := by
  refine Eq.trans (q_iload dX1_divide_151 rfl) ?_
  refine Eq.trans (q_iload dX1_divide_153 rfl) ?_
  refine Eq.trans (q_icmp_ge 184 dX1_divide_155 rfl) (q_ite2 ?_ ?_)
  · rfl
  · refine Eq.trans (q_aload_n dX1_divide_158 rfl (mx_ar_rf _)) ?_
    refine Eq.trans (q_gets dX1_divide_159 mx_sta_1_191) ?_
    refine Eq.trans (q_acmp_ne 184 dX1_divide_162 hq0 rfl rfl) (q_ite2 ?_ ?_)
    · refine Eq.trans (q_aload_n dX1_divide_165 rfl rfl) ?_
      refine Eq.trans (q_iload dX1_divide_166 rfl) ?_
      refine Eq.trans (q_aload_n dX1_divide_168 rfl rfl) ?_
      refine Eq.trans (q_getf dX1_divide_169 mx_fld_1_15 (gf_28_4 _)) ?_
      refine Eq.trans (q_iload dX1_divide_172 rfl) ?_
      refine Eq.trans (q_ld (w := 0) (by decide) dX1_divide_174 (al_30 _ _)) (q_ite ?_)
      exact q_call0 (as := [.int v5, .int (h.1 30 v5.toNatClampNeg)]) (rest := []) dX1_divide_175 mx_inv_1_61 rfl rfl rfl ⟨Nat.le_of_ble_eq_true rfl, Nat.le_of_ble_eq_true rfl, (Nat.le_of_ble_eq_true rfl)⟩
    · rfl
theorem e_X1_divide_178 (v1 : Option Nat) (v2 : Int32) (v3 : Int32) (v4 : Int32) (v5 : Int32) (v6 : Value) (v7 : Value) (h : mx_H)  : mx_D (5, mm_X1_divide, 178, [.ref 28, mx_rf v1, .int v2, .int v3, .int v4, .int v5, v6, v7], []) h = mx_D (5, mm_X1_divide, 151, [.ref 28, mx_rf v1, .int v2, .int v3, .int v4, .int (v5 + 1), v6, v7], []) h := by
  refine Eq.trans (q_iinc (x' := 1) (L' := [.ref 28, mx_rf v1, .int v2, .int v3, .int v4, .int (v5 + 1), v6, v7]) dX1_divide_178 rfl rfl rfl) ?_
  refine Eq.trans (q_goto 151 dX1_divide_181 rfl) ?_
  rfl
theorem e_X1_divide_184 (v1 : Option Nat) (v2 : Int32) (v3 : Int32) (v4 : Int32) (v5 : Int32) (v6 : Value) (v7 : Value) (h : mx_H)  : mx_D (5, mm_X1_divide, 184, [.ref 28, mx_rf v1, .int v2, .int v3, .int v4, .int v5, v6, v7], []) h = some (none, h) := by
  exact q_retV dX1_divide_184 rfl
theorem e_X1_shift_0 (v1 : Option Nat) (v2 : Int32) (v3 : Int32) (v4 : Int32) (h : mx_H) (hq0 : mx_wr (mx_rf v1) = true) : mx_D (4, mm_X1_shift, 0, [.ref 28, mx_rf v1, .int v2, .int v3, .int v4, mx_junk, mx_junk, mx_junk, mx_junk, mx_junk, mx_junk], []) h = if (mx_rf v1 : Value) = .ref 1031 then (mx_C mm_X1_bitOf [.ref 28, .int v2, .int (v4 - 1)] h).bind (fun o => mx_D (4, mm_X1_shift, 16, [.ref 28, mx_rf v1, .int v2, .int v3, .int v4, mx_junk, mx_junk, mx_junk, mx_junk, mx_junk, mx_junk], o.1.toList ++ []) o.2) else (mx_D (4, mm_X1_shift, 20, [.ref 28, mx_rf v1, .int v2, .int v3, .int v4, mx_junk, mx_junk, mx_junk, mx_junk, mx_junk, mx_junk], [.int 1]) h) := by
  refine Eq.trans (q_aload_n dX1_shift_0 rfl (mx_ar_rf _)) ?_
  refine Eq.trans (q_gets dX1_shift_1 mx_sta_1_194) ?_
  refine Eq.trans (q_acmp_ne 19 dX1_shift_4 hq0 rfl rfl) (q_ite2 ?_ ?_)
  · refine Eq.trans (q_aload_n dX1_shift_7 rfl rfl) ?_
    refine Eq.trans (q_iload_n dX1_shift_8 rfl) ?_
    refine Eq.trans (q_iload dX1_shift_9 rfl) ?_
    refine Eq.trans (q_iconst (x := 1) dX1_shift_11 rfl) ?_
    refine Eq.trans (q_isub dX1_shift_12) ?_
    exact q_call0 (as := [.int v2, .int (v4 - 1)]) (rest := []) dX1_shift_13 mx_inv_1_54 rfl rfl rfl ⟨Nat.le_of_ble_eq_true rfl, Nat.le_of_ble_eq_true rfl, (Nat.le_of_ble_eq_true rfl)⟩
  · refine Eq.trans (q_iconst (x := 1) dX1_shift_19 rfl) ?_
    rfl
theorem c_X1_shift (v1 : Option Nat) (v2 : Int32) (v3 : Int32) (v4 : Int32) (h : mx_H) : mx_C mm_X1_shift [.ref 28, mx_rf v1, .int v2, .int v3, .int v4] h = mx_D (4, mm_X1_shift, 0, [.ref 28, mx_rf v1, .int v2, .int v3, .int v4, mx_junk, mx_junk, mx_junk, mx_junk, mx_junk, mx_junk], []) h := (by cases v1 <;> exact rfl)
theorem e_X1_shift_16 (v1 : Option Nat) (v2 : Int32) (v3 : Int32) (v4 : Int32) (s0 : Int32) (h : mx_H)  : mx_D (4, mm_X1_shift, 16, [.ref 28, mx_rf v1, .int v2, .int v3, .int v4, mx_junk, mx_junk, mx_junk, mx_junk, mx_junk, mx_junk], [.int s0]) h = mx_D (4, mm_X1_shift, 20, [.ref 28, mx_rf v1, .int v2, .int v3, .int v4, mx_junk, mx_junk, mx_junk, mx_junk, mx_junk, mx_junk], [.int s0]) h := by
  refine Eq.trans (q_goto 20 dX1_shift_16 rfl) ?_
  rfl
theorem e_X1_shift_20 (v1 : Option Nat) (v2 : Int32) (v3 : Int32) (v4 : Int32) (s0 : Int32) (h : mx_H)  : mx_D (4, mm_X1_shift, 20, [.ref 28, mx_rf v1, .int v2, .int v3, .int v4, mx_junk, mx_junk, mx_junk, mx_junk, mx_junk, mx_junk], [.int s0]) h = (mx_C mm_X1_loadLeft [.ref 28, .int v2, .int v4] h).bind (fun o => mx_D (4, mm_X1_shift, 29, [.ref 28, mx_rf v1, .int v2, .int v3, .int v4, .int s0, mx_junk, mx_junk, mx_junk, mx_junk, mx_junk], o.1.toList ++ []) o.2) := by
  refine Eq.trans (q_istore (L' := [.ref 28, mx_rf v1, .int v2, .int v3, .int v4, .int s0, mx_junk, mx_junk, mx_junk, mx_junk, mx_junk]) dX1_shift_20 (Nat.le_of_ble_eq_true rfl) rfl) ?_
  refine Eq.trans (q_aload_n dX1_shift_22 rfl rfl) ?_
  refine Eq.trans (q_iload_n dX1_shift_23 rfl) ?_
  refine Eq.trans (q_iload dX1_shift_24 rfl) ?_
  exact q_call0 (as := [.int v2, .int v4]) (rest := []) dX1_shift_26 mx_inv_1_166 rfl rfl rfl ⟨Nat.le_of_ble_eq_true rfl, Nat.le_of_ble_eq_true rfl, (Nat.le_of_ble_eq_true rfl)⟩
theorem e_X1_shift_29 (v1 : Option Nat) (v2 : Int32) (v3 : Int32) (v4 : Int32) (v5 : Int32) (h : mx_H)  : mx_D (4, mm_X1_shift, 29, [.ref 28, mx_rf v1, .int v2, .int v3, .int v4, .int v5, mx_junk, mx_junk, mx_junk, mx_junk, mx_junk], []) h = mx_D (4, mm_X1_shift, 32, [.ref 28, mx_rf v1, .int v2, .int v3, .int v4, .int v5, .int 0, mx_junk, mx_junk, mx_junk, mx_junk], []) h := by
  refine Eq.trans (q_iconst (x := 0) dX1_shift_29 rfl) ?_
  refine Eq.trans (q_istore (L' := [.ref 28, mx_rf v1, .int v2, .int v3, .int v4, .int v5, .int 0, mx_junk, mx_junk, mx_junk, mx_junk]) dX1_shift_30 (Nat.le_of_ble_eq_true rfl) rfl) ?_
  rfl
theorem e_X1_shift_32 (v1 : Option Nat) (v2 : Int32) (v3 : Int32) (v4 : Int32) (v5 : Int32) (v6 : Int32) (v7 : Value) (v8 : Value) (v9 : Value) (v10 : Value) (h : mx_H) (hq0 : mx_wr (mx_rf v1) = true) : mx_D (4, mm_X1_shift, 32, [.ref 28, mx_rf v1, .int v2, .int v3, .int v4, .int v5, .int v6, v7, v8, v9, v10], []) h = if v4 ≤ v6 then some (none, h) else (if (mx_rf v1 : Value) = .ref 1029 then mx_D (4, mm_X1_shift, 58, [.ref 28, mx_rf v1, .int v2, .int v3, .int v4, .int v5, .int v6, v7, v8, v9, v10], [.int (-(1 <<< (v6 &&& 31)))]) h else (mx_D (4, mm_X1_shift, 58, [.ref 28, mx_rf v1, .int v2, .int v3, .int v4, .int v5, .int v6, v7, v8, v9, v10], [.int (1 <<< (v6 &&& 31))]) h)) := by
  refine Eq.trans (q_iload dX1_shift_32 rfl) ?_
  refine Eq.trans (q_iload dX1_shift_34 rfl) ?_
  refine Eq.trans (q_icmp_ge 175 dX1_shift_36 rfl) (q_ite2 ?_ ?_)
  · exact q_retV dX1_shift_175 rfl
  · refine Eq.trans (q_aload_n dX1_shift_39 rfl (mx_ar_rf _)) ?_
    refine Eq.trans (q_gets dX1_shift_40 mx_sta_1_197) ?_
    refine Eq.trans (q_acmp_ne 54 dX1_shift_43 hq0 rfl rfl) (q_ite2 ?_ ?_)
    · refine Eq.trans (q_iconst (x := 1) dX1_shift_46 rfl) ?_
      refine Eq.trans (q_iload dX1_shift_47 rfl) ?_
      refine Eq.trans (q_ishl dX1_shift_49) ?_
      refine Eq.trans (q_ineg dX1_shift_50) ?_
      refine Eq.trans (q_goto 58 dX1_shift_51 rfl) ?_
      rfl
    · refine Eq.trans (q_iconst (x := 1) dX1_shift_54 rfl) ?_
      refine Eq.trans (q_iload dX1_shift_55 rfl) ?_
      refine Eq.trans (q_ishl dX1_shift_57) ?_
      rfl
theorem e_X1_shift_58 (v1 : Option Nat) (v2 : Int32) (v3 : Int32) (v4 : Int32) (v5 : Int32) (v6 : Int32) (v7 : Value) (v8 : Value) (v9 : Value) (v10 : Value) (s0 : Int32) (h : mx_H)  : mx_D (4, mm_X1_shift, 58, [.ref 28, mx_rf v1, .int v2, .int v3, .int v4, .int v5, .int v6, v7, v8, v9, v10], [.int s0]) h = mx_D (4, mm_X1_shift, 63, [.ref 28, mx_rf v1, .int v2, .int v3, .int v4, .int v5, .int v6, .int s0, .int 0, v9, v10], []) h := by
  refine Eq.trans (q_istore (L' := [.ref 28, mx_rf v1, .int v2, .int v3, .int v4, .int v5, .int v6, .int s0, v8, v9, v10]) dX1_shift_58 (Nat.le_of_ble_eq_true rfl) rfl) ?_
  refine Eq.trans (q_iconst (x := 0) dX1_shift_60 rfl) ?_
  refine Eq.trans (q_istore (L' := [.ref 28, mx_rf v1, .int v2, .int v3, .int v4, .int v5, .int v6, .int s0, .int 0, v9, v10]) dX1_shift_61 (Nat.le_of_ble_eq_true rfl) rfl) ?_
  rfl
theorem e_X1_shift_63 (v1 : Option Nat) (v2 : Int32) (v3 : Int32) (v4 : Int32) (v5 : Int32) (v6 : Int32) (v7 : Int32) (v8 : Int32) (v9 : Value) (v10 : Value) (h : mx_H)  : mx_D (4, mm_X1_shift, 63, [.ref 28, mx_rf v1, .int v2, .int v3, .int v4, .int v5, .int v6, .int v7, .int v8, v9, v10], []) h = if v4 ≤ v8 then mx_D (4, mm_X1_shift, 142, [.ref 28, mx_rf v1, .int v2, .int v3, .int v4, .int v5, .int v6, .int v7, .int 0, v9, v10], []) h else (if (v8 + v7) < 0 then mx_D (4, mm_X1_shift, 99, [.ref 28, mx_rf v1, .int v2, .int v3, .int v4, .int v5, .int v6, .int v7, .int v8, .int (v8 + v7), v10], []) h else (if v4 ≤ (v8 + v7) then mx_D (4, mm_X1_shift, 99, [.ref 28, mx_rf v1, .int v2, .int v3, .int v4, .int v5, .int v6, .int v7, .int v8, .int (v8 + v7), v10], []) h else (if mx_in (v8 + v7) 4 = true then mx_D (4, mm_X1_shift, 101, [.ref 28, mx_rf v1, .int v2, .int v3, .int v4, .int v5, .int v6, .int v7, .int v8, .int (v8 + v7), v10], [.int (h.1 30 ((v8 + v7).toNatClampNeg))]) h else none))) := by
  refine Eq.trans (q_iload dX1_shift_63 rfl) ?_
  refine Eq.trans (q_iload dX1_shift_65 rfl) ?_
  refine Eq.trans (q_icmp_ge 139 dX1_shift_67 rfl) (q_ite2 ?_ ?_)
  · refine Eq.trans (q_iconst (x := 0) dX1_shift_139 rfl) ?_
    refine Eq.trans (q_istore (L' := [.ref 28, mx_rf v1, .int v2, .int v3, .int v4, .int v5, .int v6, .int v7, .int 0, v9, v10]) dX1_shift_140 (Nat.le_of_ble_eq_true rfl) rfl) ?_
    rfl
  · refine Eq.trans (q_iload dX1_shift_70 rfl) ?_
    refine Eq.trans (q_iload dX1_shift_72 rfl) ?_
    refine Eq.trans (q_iadd dX1_shift_74) ?_
    refine Eq.trans (q_istore (L' := [.ref 28, mx_rf v1, .int v2, .int v3, .int v4, .int v5, .int v6, .int v7, .int v8, .int (v8 + v7), v10]) dX1_shift_75 (Nat.le_of_ble_eq_true rfl) rfl) ?_
    refine Eq.trans (q_iload dX1_shift_77 rfl) ?_
    refine Eq.trans (q_if_lt 99 dX1_shift_79 rfl) (q_ite2 ?_ ?_)
    · rfl
    · refine Eq.trans (q_iload dX1_shift_82 rfl) ?_
      refine Eq.trans (q_iload dX1_shift_84 rfl) ?_
      refine Eq.trans (q_icmp_ge 99 dX1_shift_86 rfl) (q_ite2 ?_ ?_)
      · rfl
      · refine Eq.trans (q_aload_n dX1_shift_89 rfl rfl) ?_
        refine Eq.trans (q_getf dX1_shift_90 mx_fld_1_15 (gf_28_4 _)) ?_
        refine Eq.trans (q_iload dX1_shift_93 rfl) ?_
        refine Eq.trans (q_ld (w := 0) (by decide) dX1_shift_95 (al_30 _ _)) (q_ite ?_)
        refine Eq.trans (q_goto 101 dX1_shift_96 rfl) ?_
        rfl
theorem e_X1_shift_99 (v1 : Option Nat) (v2 : Int32) (v3 : Int32) (v4 : Int32) (v5 : Int32) (v6 : Int32) (v7 : Int32) (v8 : Int32) (v9 : Int32) (v10 : Value) (h : mx_H)  : mx_D (4, mm_X1_shift, 99, [.ref 28, mx_rf v1, .int v2, .int v3, .int v4, .int v5, .int v6, .int v7, .int v8, .int v9, v10], []) h = mx_D (4, mm_X1_shift, 101, [.ref 28, mx_rf v1, .int v2, .int v3, .int v4, .int v5, .int v6, .int v7, .int v8, .int v9, v10], [.int v5]) h := by
  refine Eq.trans (q_iload dX1_shift_99 rfl) ?_
  rfl
theorem e_X1_shift_101 (v1 : Option Nat) (v2 : Int32) (v3 : Int32) (v4 : Int32) (v5 : Int32) (v6 : Int32) (v7 : Int32) (v8 : Int32) (v9 : Int32) (v10 : Value) (s0 : Int32) (h : mx_H)  : mx_D (4, mm_X1_shift, 101, [.ref 28, mx_rf v1, .int v2, .int v3, .int v4, .int v5, .int v6, .int v7, .int v8, .int v9, v10], [.int s0]) h = (mx_C mm_X1_bitOf [.ref 28, .int v3, .int v6] h).bind (fun o => mx_D (4, mm_X1_shift, 120, [.ref 28, mx_rf v1, .int v2, .int v3, .int v4, .int v5, .int v6, .int v7, .int v8, .int v9, .int s0], o.1.toList ++ [.ref 22, .int v8, .ref 32]) o.2) := by
  refine Eq.trans (q_istore (L' := [.ref 28, mx_rf v1, .int v2, .int v3, .int v4, .int v5, .int v6, .int v7, .int v8, .int v9, .int s0]) dX1_shift_101 (Nat.le_of_ble_eq_true rfl) rfl) ?_
  refine Eq.trans (q_aload_n dX1_shift_103 rfl rfl) ?_
  refine Eq.trans (q_getf dX1_shift_104 mx_fld_1_21 (gf_28_6 _)) ?_
  refine Eq.trans (q_iload dX1_shift_107 rfl) ?_
  refine Eq.trans (q_aload_n dX1_shift_109 rfl rfl) ?_
  refine Eq.trans (q_getf dX1_shift_110 mx_fld_1_28 (gf_28_1 _)) ?_
  refine Eq.trans (q_aload_n dX1_shift_113 rfl rfl) ?_
  refine Eq.trans (q_iload_n dX1_shift_114 rfl) ?_
  refine Eq.trans (q_iload dX1_shift_115 rfl) ?_
  exact q_call0 (as := [.int v3, .int v6]) (rest := [.ref 22, .int v8, .ref 32]) dX1_shift_117 mx_inv_1_54 rfl rfl rfl ⟨Nat.le_of_ble_eq_true rfl, Nat.le_of_ble_eq_true rfl, (Nat.le_of_ble_eq_true rfl)⟩
theorem e_X1_shift_120 (v1 : Option Nat) (v2 : Int32) (v3 : Int32) (v4 : Int32) (v5 : Int32) (v6 : Int32) (v7 : Int32) (v8 : Int32) (v9 : Int32) (v10 : Int32) (s1 : Int32) (s3 : Int32) (h : mx_H)  : mx_D (4, mm_X1_shift, 120, [.ref 28, mx_rf v1, .int v2, .int v3, .int v4, .int v5, .int v6, .int v7, .int v8, .int v9, .int v10], [.int s3, .ref 22, .int s1, .ref 32]) h = if mx_in v8 4 = true then (mx_C mm_X3_mux [.ref 22, .int s3, .int v10, .int (h.1 30 v8.toNatClampNeg)] h).bind (fun o => mx_D (4, mm_X1_shift, 132, [.ref 28, mx_rf v1, .int v2, .int v3, .int v4, .int v5, .int v6, .int v7, .int v8, .int v9, .int v10], o.1.toList ++ [.int s1, .ref 32]) o.2) else none := by
  refine Eq.trans (q_iload dX1_shift_120 rfl) ?_
  refine Eq.trans (q_aload_n dX1_shift_122 rfl rfl) ?_
  refine Eq.trans (q_getf dX1_shift_123 mx_fld_1_15 (gf_28_4 _)) ?_
  refine Eq.trans (q_iload dX1_shift_126 rfl) ?_
  refine Eq.trans (q_ld (w := 0) (by decide) dX1_shift_128 (al_30 _ _)) (q_ite ?_)
  exact q_call0 (as := [.int s3, .int v10, .int (h.1 30 v8.toNatClampNeg)]) (rest := [.int s1, .ref 32]) dX1_shift_129 mx_inv_1_136 rfl rfl rfl ⟨Nat.le_of_ble_eq_true rfl, Nat.le_of_ble_eq_true rfl, (Nat.le_of_ble_eq_true rfl)⟩
theorem e_X1_shift_132 (v1 : Option Nat) (v2 : Int32) (v3 : Int32) (v4 : Int32) (v5 : Int32) (v6 : Int32) (v7 : Int32) (v8 : Int32) (v9 : Int32) (v10 : Int32) (s1 : Int32) (s2 : Int32) (h : mx_H)  : mx_D (4, mm_X1_shift, 132, [.ref 28, mx_rf v1, .int v2, .int v3, .int v4, .int v5, .int v6, .int v7, .int v8, .int v9, .int v10], [.int s2, .int s1, .ref 32]) h = if mx_in s1 4 = true then mx_D (4, mm_X1_shift, 63, [.ref 28, mx_rf v1, .int v2, .int v3, .int v4, .int v5, .int v6, .int v7, .int (v8 + 1), .int v9, .int v10], []) ((mx_u h.1 32 s1.toNatClampNeg s2), h.2.1, h.2.2) else none := by
  refine Eq.trans (q_st (w := 0) (by decide) dX1_shift_132 (as_32 _ _ _)) (q_ite ?_)
  refine Eq.trans (q_iinc (x' := 1) (L' := [.ref 28, mx_rf v1, .int v2, .int v3, .int v4, .int v5, .int v6, .int v7, .int (v8 + 1), .int v9, .int v10]) dX1_shift_133 rfl rfl rfl) ?_
  refine Eq.trans (q_goto 63 dX1_shift_136 rfl) ?_
  rfl
theorem e_X1_shift_142 (v1 : Option Nat) (v2 : Int32) (v3 : Int32) (v4 : Int32) (v5 : Int32) (v6 : Int32) (v7 : Int32) (v8 : Int32) (v9 : Value) (v10 : Value) (h : mx_H)  : mx_D (4, mm_X1_shift, 142, [.ref 28, mx_rf v1, .int v2, .int v3, .int v4, .int v5, .int v6, .int v7, .int v8, v9, v10], []) h = if v4 ≤ v8 then mx_D (4, mm_X1_shift, 32, [.ref 28, mx_rf v1, .int v2, .int v3, .int v4, .int v5, .int (v6 + 1), .int v7, .int v8, v9, v10], []) h else (if mx_in v8 4 = true then if mx_in v8 4 = true then mx_D (4, mm_X1_shift, 142, [.ref 28, mx_rf v1, .int v2, .int v3, .int v4, .int v5, .int v6, .int v7, .int (v8 + 1), v9, v10], []) ((mx_u h.1 30 v8.toNatClampNeg (h.1 32 v8.toNatClampNeg)), h.2.1, h.2.2) else none else none) := by
  refine Eq.trans (q_iload dX1_shift_142 rfl) ?_
  refine Eq.trans (q_iload dX1_shift_144 rfl) ?_
  refine Eq.trans (q_icmp_ge 169 dX1_shift_146 rfl) (q_ite2 ?_ ?_)
  · refine Eq.trans (q_iinc (x' := 1) (L' := [.ref 28, mx_rf v1, .int v2, .int v3, .int v4, .int v5, .int (v6 + 1), .int v7, .int v8, v9, v10]) dX1_shift_169 rfl rfl rfl) ?_
    refine Eq.trans (q_goto 32 dX1_shift_172 rfl) ?_
    rfl
  · refine Eq.trans (q_aload_n dX1_shift_149 rfl rfl) ?_
    refine Eq.trans (q_getf dX1_shift_150 mx_fld_1_15 (gf_28_4 _)) ?_
    refine Eq.trans (q_iload dX1_shift_153 rfl) ?_
    refine Eq.trans (q_aload_n dX1_shift_155 rfl rfl) ?_
    refine Eq.trans (q_getf dX1_shift_156 mx_fld_1_21 (gf_28_6 _)) ?_
    refine Eq.trans (q_iload dX1_shift_159 rfl) ?_
    refine Eq.trans (q_ld (w := 0) (by decide) dX1_shift_161 (al_32 _ _)) (q_ite ?_)
    refine Eq.trans (q_st (w := 0) (by decide) dX1_shift_162 (as_30 _ _ _)) (q_ite ?_)
    refine Eq.trans (q_iinc (x' := 1) (L' := [.ref 28, mx_rf v1, .int v2, .int v3, .int v4, .int v5, .int v6, .int v7, .int (v8 + 1), v9, v10]) dX1_shift_163 rfl rfl rfl) ?_
    refine Eq.trans (q_goto 142 dX1_shift_166 rfl) ?_
    rfl
