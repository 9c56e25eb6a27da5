theorem e_X1_logic_40 (v1 : Option Nat) (v2 : Int32) (v3 : Int32) (h : mx_H)  : mx_D (12, mm_X1_logic, 40, [.ref 28, mx_rf v1, .int v2, .int v3], []) h = some (some (.int (v2 ^^^ 1)), h) := by
  refine Eq.trans (q_iload_n dX1_logic_40 rfl) ?_
  refine Eq.trans (q_iconst (x := 1) dX1_logic_41 rfl) ?_
  refine Eq.trans (q_ixor dX1_logic_42) ?_
  exact q_retI dX1_logic_43 rfl
theorem e_X1_logic_44 (v1 : Option Nat) (v2 : Int32) (v3 : Int32) (h : mx_H)  : mx_D (12, mm_X1_logic, 44, [.ref 28, mx_rf v1, .int v2, .int v3], []) h = (mx_C mm_X3_and [.ref 22, .int v2, .int v3] h).bind (fun o => mx_D (12, mm_X1_logic, 53, [.ref 28, mx_rf v1, .int v2, .int v3], o.1.toList ++ []) o.2) := by
  refine Eq.trans (q_aload_n dX1_logic_44 rfl rfl) ?_
  refine Eq.trans (q_getf dX1_logic_45 mx_fld_1_28 (gf_28_1 _)) ?_
  refine Eq.trans (q_iload_n dX1_logic_48 rfl) ?_
  refine Eq.trans (q_iload_n dX1_logic_49 rfl) ?_
  exact q_call0 (as := [.int v2, .int v3]) (rest := []) dX1_logic_50 mx_inv_1_125 rfl rfl rfl ⟨Nat.le_of_ble_eq_true rfl, Nat.le_of_ble_eq_true rfl, (Nat.le_of_ble_eq_true rfl)⟩
theorem e_X1_logic_53 (v1 : Option Nat) (v2 : Int32) (v3 : Int32) (s0 : Int32) (h : mx_H)  : mx_D (12, mm_X1_logic, 53, [.ref 28, mx_rf v1, .int v2, .int v3], [.int s0]) h = some (some (.int s0), h) := by
  exact q_retI dX1_logic_53 rfl
theorem e_X1_logic_54 (v1 : Option Nat) (v2 : Int32) (v3 : Int32) (h : mx_H)  : mx_D (12, mm_X1_logic, 54, [.ref 28, mx_rf v1, .int v2, .int v3], []) h = (mx_C mm_X3_or [.ref 22, .int v2, .int v3] h).bind (fun o => mx_D (12, mm_X1_logic, 63, [.ref 28, mx_rf v1, .int v2, .int v3], o.1.toList ++ []) o.2) := by
  refine Eq.trans (q_aload_n dX1_logic_54 rfl rfl) ?_
  refine Eq.trans (q_getf dX1_logic_55 mx_fld_1_28 (gf_28_1 _)) ?_
  refine Eq.trans (q_iload_n dX1_logic_58 rfl) ?_
  refine Eq.trans (q_iload_n dX1_logic_59 rfl) ?_
  exact q_call0 (as := [.int v2, .int v3]) (rest := []) dX1_logic_60 mx_inv_1_130 rfl rfl rfl ⟨Nat.le_of_ble_eq_true rfl, Nat.le_of_ble_eq_true rfl, (Nat.le_of_ble_eq_true rfl)⟩
theorem e_X1_logic_63 (v1 : Option Nat) (v2 : Int32) (v3 : Int32) (s0 : Int32) (h : mx_H)  : mx_D (12, mm_X1_logic, 63, [.ref 28, mx_rf v1, .int v2, .int v3], [.int s0]) h = some (some (.int s0), h) := by
  exact q_retI dX1_logic_63 rfl
theorem e_X1_logic_64 (v1 : Option Nat) (v2 : Int32) (v3 : Int32) (h : mx_H)  : mx_D (12, mm_X1_logic, 64, [.ref 28, mx_rf v1, .int v2, .int v3], []) h = (mx_C mm_X3_xor [.ref 22, .int v2, .int v3] h).bind (fun o => mx_D (12, mm_X1_logic, 73, [.ref 28, mx_rf v1, .int v2, .int v3], o.1.toList ++ []) o.2) := by
  refine Eq.trans (q_aload_n dX1_logic_64 rfl rfl) ?_
  refine Eq.trans (q_getf dX1_logic_65 mx_fld_1_28 (gf_28_1 _)) ?_
  refine Eq.trans (q_iload_n dX1_logic_68 rfl) ?_
  refine Eq.trans (q_iload_n dX1_logic_69 rfl) ?_
  exact q_call0 (as := [.int v2, .int v3]) (rest := []) dX1_logic_70 mx_inv_1_133 rfl rfl rfl ⟨Nat.le_of_ble_eq_true rfl, Nat.le_of_ble_eq_true rfl, (Nat.le_of_ble_eq_true rfl)⟩
theorem e_X1_logic_73 (v1 : Option Nat) (v2 : Int32) (v3 : Int32) (s0 : Int32) (h : mx_H)  : mx_D (12, mm_X1_logic, 73, [.ref 28, mx_rf v1, .int v2, .int v3], [.int s0]) h = some (some (.int s0), h) := by
  exact q_retI dX1_logic_73 rfl
theorem e_X1_logic_74 (v1 : Option Nat) (v2 : Int32) (v3 : Int32) (h : mx_H)  : mx_D (12, mm_X1_logic, 74, [.ref 28, mx_rf v1, .int v2, .int v3], []) h = (mx_C mm_X3_or [.ref 22, .int (v2 ^^^ 1), .int v3] h).bind (fun o => mx_D (12, mm_X1_logic, 85, [.ref 28, mx_rf v1, .int v2, .int v3], o.1.toList ++ []) o.2) := by
  refine Eq.trans (q_aload_n dX1_logic_74 rfl rfl) ?_
  refine Eq.trans (q_getf dX1_logic_75 mx_fld_1_28 (gf_28_1 _)) ?_
  refine Eq.trans (q_iload_n dX1_logic_78 rfl) ?_
  refine Eq.trans (q_iconst (x := 1) dX1_logic_79 rfl) ?_
  refine Eq.trans (q_ixor dX1_logic_80) ?_
  refine Eq.trans (q_iload_n dX1_logic_81 rfl) ?_
  exact q_call0 (as := [.int (v2 ^^^ 1), .int v3]) (rest := []) dX1_logic_82 mx_inv_1_130 rfl rfl rfl ⟨Nat.le_of_ble_eq_true rfl, Nat.le_of_ble_eq_true rfl, (Nat.le_of_ble_eq_true rfl)⟩
theorem e_X1_logic_85 (v1 : Option Nat) (v2 : Int32) (v3 : Int32) (s0 : Int32) (h : mx_H)  : mx_D (12, mm_X1_logic, 85, [.ref 28, mx_rf v1, .int v2, .int v3], [.int s0]) h = some (some (.int s0), h) := by
  exact q_retI dX1_logic_85 rfl
theorem e_X1_equal_0 (v1 : Int32) (v2 : Int32) (h : mx_H)  : mx_D (4, mm_X1_equal, 0, [.ref 28, .int v1, .int v2, mx_junk, mx_junk], []) h = mx_D (4, mm_X1_equal, 5, [.ref 28, .int v1, .int v2, .int 0, .int 0], []) h := by
  refine Eq.trans (q_iconst (x := 0) dX1_equal_0 rfl) ?_
  refine Eq.trans (q_istore_n (L' := [.ref 28, .int v1, .int v2, .int 0, mx_junk]) dX1_equal_1 (Nat.le_of_ble_eq_true rfl) rfl) ?_
  refine Eq.trans (q_iconst (x := 0) dX1_equal_2 rfl) ?_
  refine Eq.trans (q_istore (L' := [.ref 28, .int v1, .int v2, .int 0, .int 0]) dX1_equal_3 (Nat.le_of_ble_eq_true rfl) rfl) ?_
  rfl
theorem c_X1_equal (v1 : Int32) (v2 : Int32) (h : mx_H) : mx_C mm_X1_equal [.ref 28, .int v1, .int v2] h = mx_D (4, mm_X1_equal, 0, [.ref 28, .int v1, .int v2, mx_junk, mx_junk], []) h := rfl
theorem e_X1_equal_5 (v1 : Int32) (v2 : Int32) (v3 : Int32) (v4 : Int32) (h : mx_H)  : mx_D (4, mm_X1_equal, 5, [.ref 28, .int v1, .int v2, .int v3, .int v4], []) h = (mx_C mm_X1_widthOf [.ref 28, .int v1] h).bind (fun o => mx_D (4, mm_X1_equal, 12, [.ref 28, .int v1, .int v2, .int v3, .int v4], o.1.toList ++ [.int v4]) o.2) := by
  refine Eq.trans (q_iload dX1_equal_5 rfl) ?_
  refine Eq.trans (q_aload_n dX1_equal_7 rfl rfl) ?_
  refine Eq.trans (q_iload_n dX1_equal_8 rfl) ?_
  exact q_call0 (as := [.int v1]) (rest := [.int v4]) dX1_equal_9 mx_inv_1_110 rfl rfl rfl ⟨Nat.le_of_ble_eq_true rfl, Nat.le_of_ble_eq_true rfl, (Nat.le_of_ble_eq_true rfl)⟩
theorem e_X1_equal_12 (v1 : Int32) (v2 : Int32) (v3 : Int32) (v4 : Int32) (s0 : Int32) (s1 : Int32) (h : mx_H)  : mx_D (4, mm_X1_equal, 12, [.ref 28, .int v1, .int v2, .int v3, .int v4], [.int s1, .int s0]) h = if s1 ≤ s0 then some (some (.int v3), h) else ((mx_C mm_X1_bitOf [.ref 28, .int v1, .int v4] h).bind (fun o => mx_D (4, mm_X1_equal, 31, [.ref 28, .int v1, .int v2, .int v3, .int v4], o.1.toList ++ [.ref 22, .int v3, .ref 22]) o.2)) := by
  refine Eq.trans (q_icmp_ge 53 dX1_equal_12 rfl) (q_ite2 ?_ ?_)
  · refine Eq.trans (q_iload_n dX1_equal_53 rfl) ?_
    exact q_retI dX1_equal_54 rfl
  · refine Eq.trans (q_aload_n dX1_equal_15 rfl rfl) ?_
    refine Eq.trans (q_getf dX1_equal_16 mx_fld_1_28 (gf_28_1 _)) ?_
    refine Eq.trans (q_iload_n dX1_equal_19 rfl) ?_
    refine Eq.trans (q_aload_n dX1_equal_20 rfl rfl) ?_
    refine Eq.trans (q_getf dX1_equal_21 mx_fld_1_28 (gf_28_1 _)) ?_
    refine Eq.trans (q_aload_n dX1_equal_24 rfl rfl) ?_
    refine Eq.trans (q_iload_n dX1_equal_25 rfl) ?_
    refine Eq.trans (q_iload dX1_equal_26 rfl) ?_
    exact q_call0 (as := [.int v1, .int v4]) (rest := [.ref 22, .int v3, .ref 22]) dX1_equal_28 mx_inv_1_54 rfl rfl rfl ⟨Nat.le_of_ble_eq_true rfl, Nat.le_of_ble_eq_true rfl, (Nat.le_of_ble_eq_true rfl)⟩
theorem e_X1_equal_31 (v1 : Int32) (v2 : Int32) (v3 : Int32) (v4 : Int32) (s1 : Int32) (s3 : Int32) (h : mx_H)  : mx_D (4, mm_X1_equal, 31, [.ref 28, .int v1, .int v2, .int v3, .int v4], [.int s3, .ref 22, .int s1, .ref 22]) h = (mx_C mm_X1_bitOf [.ref 28, .int v2, .int v4] h).bind (fun o => mx_D (4, mm_X1_equal, 38, [.ref 28, .int v1, .int v2, .int v3, .int v4], o.1.toList ++ [.int s3, .ref 22, .int s1, .ref 22]) o.2) := by
  refine Eq.trans (q_aload_n dX1_equal_31 rfl rfl) ?_
  refine Eq.trans (q_iload_n dX1_equal_32 rfl) ?_
  refine Eq.trans (q_iload dX1_equal_33 rfl) ?_
  exact q_call0 (as := [.int v2, .int v4]) (rest := [.int s3, .ref 22, .int s1, .ref 22]) dX1_equal_35 mx_inv_1_54 rfl rfl rfl ⟨Nat.le_of_ble_eq_true rfl, Nat.le_of_ble_eq_true rfl, (Nat.le_of_ble_eq_true rfl)⟩
theorem e_X1_equal_38 (v1 : Int32) (v2 : Int32) (v3 : Int32) (v4 : Int32) (s1 : Int32) (s3 : Int32) (s4 : Int32) (h : mx_H)  : mx_D (4, mm_X1_equal, 38, [.ref 28, .int v1, .int v2, .int v3, .int v4], [.int s4, .int s3, .ref 22, .int s1, .ref 22]) h = (mx_C mm_X3_xor [.ref 22, .int s3, .int s4] h).bind (fun o => mx_D (4, mm_X1_equal, 41, [.ref 28, .int v1, .int v2, .int v3, .int v4], o.1.toList ++ [.int s1, .ref 22]) o.2) := by
  exact q_call0 (as := [.int s3, .int s4]) (rest := [.int s1, .ref 22]) dX1_equal_38 mx_inv_1_133 rfl rfl rfl ⟨Nat.le_of_ble_eq_true rfl, Nat.le_of_ble_eq_true rfl, (Nat.le_of_ble_eq_true rfl)⟩
theorem e_X1_equal_41 (v1 : Int32) (v2 : Int32) (v3 : Int32) (v4 : Int32) (s1 : Int32) (s2 : Int32) (h : mx_H)  : mx_D (4, mm_X1_equal, 41, [.ref 28, .int v1, .int v2, .int v3, .int v4], [.int s2, .int s1, .ref 22]) h = (mx_C mm_X3_and [.ref 22, .int s1, .int (s2 ^^^ 1)] h).bind (fun o => mx_D (4, mm_X1_equal, 46, [.ref 28, .int v1, .int v2, .int v3, .int v4], o.1.toList ++ []) o.2) := by
  refine Eq.trans (q_iconst (x := 1) dX1_equal_41 rfl) ?_
  refine Eq.trans (q_ixor dX1_equal_42) ?_
  exact q_call0 (as := [.int s1, .int (s2 ^^^ 1)]) (rest := []) dX1_equal_43 mx_inv_1_125 rfl rfl rfl ⟨Nat.le_of_ble_eq_true rfl, Nat.le_of_ble_eq_true rfl, (Nat.le_of_ble_eq_true rfl)⟩
theorem e_X1_equal_46 (v1 : Int32) (v2 : Int32) (v3 : Int32) (v4 : Int32) (s0 : Int32) (h : mx_H)  : mx_D (4, mm_X1_equal, 46, [.ref 28, .int v1, .int v2, .int v3, .int v4], [.int s0]) h = mx_D (4, mm_X1_equal, 5, [.ref 28, .int v1, .int v2, .int s0, .int (v4 + 1)], []) h := by
  refine Eq.trans (q_istore_n (L' := [.ref 28, .int v1, .int v2, .int s0, .int v4]) dX1_equal_46 (Nat.le_of_ble_eq_true rfl) rfl) ?_
  refine Eq.trans (q_iinc (x' := 1) (L' := [.ref 28, .int v1, .int v2, .int s0, .int (v4 + 1)]) dX1_equal_47 rfl rfl rfl) ?_
  refine Eq.trans (q_goto 5 dX1_equal_50 rfl) ?_
  rfl
theorem e_X1_choose_0 (v1 : Int32) (v2 : Int32) (v3 : Int32) (h : mx_H)  : mx_D (4, mm_X1_choose, 0, [.ref 28, .int v1, .int v2, .int v3, mx_junk], []) h = mx_D (4, mm_X1_choose, 3, [.ref 28, .int v1, .int v2, .int v3, .int 0], []) h := by
  refine Eq.trans (q_iconst (x := 0) dX1_choose_0 rfl) ?_
  refine Eq.trans (q_istore (L' := [.ref 28, .int v1, .int v2, .int v3, .int 0]) dX1_choose_1 (Nat.le_of_ble_eq_true rfl) rfl) ?_
  rfl
theorem c_X1_choose (v1 : Int32) (v2 : Int32) (v3 : Int32) (h : mx_H) : mx_C mm_X1_choose [.ref 28, .int v1, .int v2, .int v3] h = mx_D (4, mm_X1_choose, 0, [.ref 28, .int v1, .int v2, .int v3, mx_junk], []) h := rfl
theorem e_X1_choose_3 (v1 : Int32) (v2 : Int32) (v3 : Int32) (v4 : Int32) (h : mx_H)  : mx_D (4, mm_X1_choose, 3, [.ref 28, .int v1, .int v2, .int v3, .int v4], []) h = (mx_C mm_X1_widthOf [.ref 28, .int v2] h).bind (fun o => mx_D (4, mm_X1_choose, 10, [.ref 28, .int v1, .int v2, .int v3, .int v4], o.1.toList ++ [.int v4]) o.2) := by
  refine Eq.trans (q_iload dX1_choose_3 rfl) ?_
  refine Eq.trans (q_aload_n dX1_choose_5 rfl rfl) ?_
  refine Eq.trans (q_iload_n dX1_choose_6 rfl) ?_
  exact q_call0 (as := [.int v2]) (rest := [.int v4]) dX1_choose_7 mx_inv_1_110 rfl rfl rfl ⟨Nat.le_of_ble_eq_true rfl, Nat.le_of_ble_eq_true rfl, (Nat.le_of_ble_eq_true rfl)⟩
theorem e_X1_choose_10 (v1 : Int32) (v2 : Int32) (v3 : Int32) (v4 : Int32) (s0 : Int32) (s1 : Int32) (h : mx_H)  : mx_D (4, mm_X1_choose, 10, [.ref 28, .int v1, .int v2, .int v3, .int v4], [.int s1, .int s0]) h = if s1 ≤ s0 then some (none, h) else ((mx_C mm_X1_bitOf [.ref 28, .int v2, .int v4] h).bind (fun o => mx_D (4, mm_X1_choose, 28, [.ref 28, .int v1, .int v2, .int v3, .int v4], o.1.toList ++ [.int v1, .ref 22, .int v4, .ref 28]) o.2)) := by
  refine Eq.trans (q_icmp_ge 47 dX1_choose_10 rfl) (q_ite2 ?_ ?_)
  · exact q_retV dX1_choose_47 rfl
  · refine Eq.trans (q_aload_n dX1_choose_13 rfl rfl) ?_
    refine Eq.trans (q_iload dX1_choose_14 rfl) ?_
    refine Eq.trans (q_aload_n dX1_choose_16 rfl rfl) ?_
    refine Eq.trans (q_getf dX1_choose_17 mx_fld_1_28 (gf_28_1 _)) ?_
    refine Eq.trans (q_iload_n dX1_choose_20 rfl) ?_
    refine Eq.trans (q_aload_n dX1_choose_21 rfl rfl) ?_
    refine Eq.trans (q_iload_n dX1_choose_22 rfl) ?_
    refine Eq.trans (q_iload dX1_choose_23 rfl) ?_
    exact q_call0 (as := [.int v2, .int v4]) (rest := [.int v1, .ref 22, .int v4, .ref 28]) dX1_choose_25 mx_inv_1_54 rfl rfl rfl ⟨Nat.le_of_ble_eq_true rfl, Nat.le_of_ble_eq_true rfl, (Nat.le_of_ble_eq_true rfl)⟩
theorem e_X1_choose_28 (v1 : Int32) (v2 : Int32) (v3 : Int32) (v4 : Int32) (s1 : Int32) (s3 : Int32) (s4 : Int32) (h : mx_H)  : mx_D (4, mm_X1_choose, 28, [.ref 28, .int v1, .int v2, .int v3, .int v4], [.int s4, .int s3, .ref 22, .int s1, .ref 28]) h = (mx_C mm_X1_bitOf [.ref 28, .int v3, .int v4] h).bind (fun o => mx_D (4, mm_X1_choose, 35, [.ref 28, .int v1, .int v2, .int v3, .int v4], o.1.toList ++ [.int s4, .int s3, .ref 22, .int s1, .ref 28]) o.2) := by
  refine Eq.trans (q_aload_n dX1_choose_28 rfl rfl) ?_
  refine Eq.trans (q_iload_n dX1_choose_29 rfl) ?_
  refine Eq.trans (q_iload dX1_choose_30 rfl) ?_
  exact q_call0 (as := [.int v3, .int v4]) (rest := [.int s4, .int s3, .ref 22, .int s1, .ref 28]) dX1_choose_32 mx_inv_1_54 rfl rfl rfl ⟨Nat.le_of_ble_eq_true rfl, Nat.le_of_ble_eq_true rfl, (Nat.le_of_ble_eq_true rfl)⟩
theorem e_X1_choose_35 (v1 : Int32) (v2 : Int32) (v3 : Int32) (v4 : Int32) (s1 : Int32) (s3 : Int32) (s4 : Int32) (s5 : Int32) (h : mx_H)  : mx_D (4, mm_X1_choose, 35, [.ref 28, .int v1, .int v2, .int v3, .int v4], [.int s5, .int s4, .int s3, .ref 22, .int s1, .ref 28]) h = (mx_C mm_X3_mux [.ref 22, .int s3, .int s4, .int s5] h).bind (fun o => mx_D (4, mm_X1_choose, 38, [.ref 28, .int v1, .int v2, .int v3, .int v4], o.1.toList ++ [.int s1, .ref 28]) o.2) := by
  exact q_call0 (as := [.int s3, .int s4, .int s5]) (rest := [.int s1, .ref 28]) dX1_choose_35 mx_inv_1_136 rfl rfl rfl ⟨Nat.le_of_ble_eq_true rfl, Nat.le_of_ble_eq_true rfl, (Nat.le_of_ble_eq_true rfl)⟩
theorem e_X1_choose_38 (v1 : Int32) (v2 : Int32) (v3 : Int32) (v4 : Int32) (s1 : Int32) (s2 : Int32) (h : mx_H)  : mx_D (4, mm_X1_choose, 38, [.ref 28, .int v1, .int v2, .int v3, .int v4], [.int s2, .int s1, .ref 28]) h = (mx_C mm_X1_set [.ref 28, .int s1, .int s2] h).bind (fun o => mx_D (4, mm_X1_choose, 41, [.ref 28, .int v1, .int v2, .int v3, .int v4], o.1.toList ++ []) o.2) := by
  exact q_call0 (as := [.int s1, .int s2]) (rest := []) dX1_choose_38 mx_inv_1_61 rfl rfl rfl ⟨Nat.le_of_ble_eq_true rfl, Nat.le_of_ble_eq_true rfl, (Nat.le_of_ble_eq_true rfl)⟩
theorem e_X1_choose_41 (v1 : Int32) (v2 : Int32) (v3 : Int32) (v4 : Int32) (h : mx_H)  : mx_D (4, mm_X1_choose, 41, [.ref 28, .int v1, .int v2, .int v3, .int v4], []) h = mx_D (4, mm_X1_choose, 3, [.ref 28, .int v1, .int v2, .int v3, .int (v4 + 1)], []) h := by
  refine Eq.trans (q_iinc (x' := 1) (L' := [.ref 28, .int v1, .int v2, .int v3, .int (v4 + 1)]) dX1_choose_41 rfl rfl rfl) ?_
  refine Eq.trans (q_goto 3 dX1_choose_44 rfl) ?_
  rfl
theorem e_X1_less_0 (v1 : Option Nat) (v2 : Int32) (v3 : Int32) (h : mx_H)  : mx_D (4, mm_X1_less, 0, [.ref 28, mx_rf v1, .int v2, .int v3, mx_junk, mx_junk, mx_junk, mx_junk, mx_junk], []) h = (mx_C mm_X1_widthOf [.ref 28, .int v2] h).bind (fun o => mx_D (4, mm_X1_less, 5, [.ref 28, mx_rf v1, .int v2, .int v3, mx_junk, mx_junk, mx_junk, mx_junk, mx_junk], o.1.toList ++ []) o.2) := by
  refine Eq.trans (q_aload_n dX1_less_0 rfl rfl) ?_
  refine Eq.trans (q_iload_n dX1_less_1 rfl) ?_
  exact q_call0 (as := [.int v2]) (rest := []) dX1_less_2 mx_inv_1_110 rfl rfl rfl ⟨Nat.le_of_ble_eq_true rfl, Nat.le_of_ble_eq_true rfl, (Nat.le_of_ble_eq_true rfl)⟩
theorem c_X1_less (v1 : Option Nat) (v2 : Int32) (v3 : Int32) (h : mx_H) : mx_C mm_X1_less [.ref 28, mx_rf v1, .int v2, .int v3] h = mx_D (4, mm_X1_less, 0, [.ref 28, mx_rf v1, .int v2, .int v3, mx_junk, mx_junk, mx_junk, mx_junk, mx_junk], []) h := (by cases v1 <;> exact rfl)
theorem e_X1_less_5 (v1 : Option Nat) (v2 : Int32) (v3 : Int32) (s0 : Int32) (h : mx_H) (hq0 : mx_wr (mx_rf v1) = true) : mx_D (4, mm_X1_less, 5, [.ref 28, mx_rf v1, .int v2, .int v3, mx_junk, mx_junk, mx_junk, mx_junk, mx_junk], [.int s0]) h = if (mx_rf v1 : Value) = .ref 1034 then mx_D (4, mm_X1_less, 23, [.ref 28, mx_rf v1, .int v2, .int v3, .int (s0 - 1), mx_junk, mx_junk, mx_junk, mx_junk], []) h else (if (mx_rf v1 : Value) = .ref 1035 then mx_D (4, mm_X1_less, 23, [.ref 28, mx_rf v1, .int v2, .int v3, .int (s0 - 1), mx_junk, mx_junk, mx_junk, mx_junk], []) h else (mx_D (4, mm_X1_less, 28, [.ref 28, mx_rf v1, .int v2, .int v3, .int (s0 - 1), mx_junk, mx_junk, mx_junk, mx_junk], [.int 0]) h)) := by
  refine Eq.trans (q_iconst (x := 1) dX1_less_5 rfl) ?_
  refine Eq.trans (q_isub dX1_less_6) ?_
  refine Eq.trans (q_istore (L' := [.ref 28, mx_rf v1, .int v2, .int v3, .int (s0 - 1), mx_junk, mx_junk, mx_junk, mx_junk]) dX1_less_7 (Nat.le_of_ble_eq_true rfl) rfl) ?_
  refine Eq.trans (q_aload_n dX1_less_9 rfl (mx_ar_rf _)) ?_
  refine Eq.trans (q_gets dX1_less_10 mx_sta_1_140) ?_
  refine Eq.trans (q_acmp_eq 23 dX1_less_13 hq0 rfl rfl) (q_ite2 ?_ ?_)
  · rfl
  · refine Eq.trans (q_aload_n dX1_less_16 rfl (mx_ar_rf _)) ?_
    refine Eq.trans (q_gets dX1_less_17 mx_sta_1_143) ?_
    refine Eq.trans (q_acmp_ne 27 dX1_less_20 hq0 rfl rfl) (q_ite2 ?_ ?_)
    · rfl
    · refine Eq.trans (q_iconst (x := 0) dX1_less_27 rfl) ?_
      rfl
theorem e_X1_less_23 (v1 : Option Nat) (v2 : Int32) (v3 : Int32) (v4 : Int32) (h : mx_H)  : mx_D (4, mm_X1_less, 23, [.ref 28, mx_rf v1, .int v2, .int v3, .int v4, mx_junk, mx_junk, mx_junk, mx_junk], []) h = mx_D (4, mm_X1_less, 28, [.ref 28, mx_rf v1, .int v2, .int v3, .int v4, mx_junk, mx_junk, mx_junk, mx_junk], [.int 1]) h := by
  refine Eq.trans (q_iconst (x := 1) dX1_less_23 rfl) ?_
  refine Eq.trans (q_goto 28 dX1_less_24 rfl) ?_
  rfl
theorem e_X1_less_28 (v1 : Option Nat) (v2 : Int32) (v3 : Int32) (v4 : Int32) (s0 : Int32) (h : mx_H) (hq0 : mx_wr (mx_rf v1) = true) : mx_D (4, mm_X1_less, 28, [.ref 28, mx_rf v1, .int v2, .int v3, .int v4, mx_junk, mx_junk, mx_junk, mx_junk], [.int s0]) h = if (mx_rf v1 : Value) = .ref 1033 then mx_D (4, mm_X1_less, 44, [.ref 28, mx_rf v1, .int v2, .int v3, .int v4, .int s0, mx_junk, mx_junk, mx_junk], []) h else (if (mx_rf v1 : Value) = .ref 1035 then mx_D (4, mm_X1_less, 44, [.ref 28, mx_rf v1, .int v2, .int v3, .int v4, .int s0, mx_junk, mx_junk, mx_junk], []) h else (mx_D (4, mm_X1_less, 49, [.ref 28, mx_rf v1, .int v2, .int v3, .int v4, .int s0, mx_junk, mx_junk, mx_junk], [.int 1]) h)) := by
  refine Eq.trans (q_istore (L' := [.ref 28, mx_rf v1, .int v2, .int v3, .int v4, .int s0, mx_junk, mx_junk, mx_junk]) dX1_less_28 (Nat.le_of_ble_eq_true rfl) rfl) ?_
  refine Eq.trans (q_aload_n dX1_less_30 rfl (mx_ar_rf _)) ?_
  refine Eq.trans (q_gets dX1_less_31 mx_sta_1_146) ?_
  refine Eq.trans (q_acmp_eq 44 dX1_less_34 hq0 rfl rfl) (q_ite2 ?_ ?_)
  · rfl
  · refine Eq.trans (q_aload_n dX1_less_37 rfl (mx_ar_rf _)) ?_
    refine Eq.trans (q_gets dX1_less_38 mx_sta_1_143) ?_
    refine Eq.trans (q_acmp_ne 48 dX1_less_41 hq0 rfl rfl) (q_ite2 ?_ ?_)
    · rfl
    · refine Eq.trans (q_iconst (x := 1) dX1_less_48 rfl) ?_
      rfl
theorem e_X1_less_44 (v1 : Option Nat) (v2 : Int32) (v3 : Int32) (v4 : Int32) (v5 : Int32) (h : mx_H)  : mx_D (4, mm_X1_less, 44, [.ref 28, mx_rf v1, .int v2, .int v3, .int v4, .int v5, mx_junk, mx_junk, mx_junk], []) h = mx_D (4, mm_X1_less, 49, [.ref 28, mx_rf v1, .int v2, .int v3, .int v4, .int v5, mx_junk, mx_junk, mx_junk], [.int 0]) h := by
  refine Eq.trans (q_iconst (x := 0) dX1_less_44 rfl) ?_
  refine Eq.trans (q_goto 49 dX1_less_45 rfl) ?_
  rfl
theorem e_X1_less_49 (v1 : Option Nat) (v2 : Int32) (v3 : Int32) (v4 : Int32) (v5 : Int32) (s0 : Int32) (h : mx_H)  : mx_D (4, mm_X1_less, 49, [.ref 28, mx_rf v1, .int v2, .int v3, .int v4, .int v5, mx_junk, mx_junk, mx_junk], [.int s0]) h = mx_D (4, mm_X1_less, 54, [.ref 28, mx_rf v1, .int v2, .int v3, .int v4, .int v5, .int s0, .int 0, mx_junk], []) h := by
  refine Eq.trans (q_istore (L' := [.ref 28, mx_rf v1, .int v2, .int v3, .int v4, .int v5, .int s0, mx_junk, mx_junk]) dX1_less_49 (Nat.le_of_ble_eq_true rfl) rfl) ?_
  refine Eq.trans (q_iconst (x := 0) dX1_less_51 rfl) ?_
  refine Eq.trans (q_istore (L' := [.ref 28, mx_rf v1, .int v2, .int v3, .int v4, .int v5, .int s0, .int 0, mx_junk]) dX1_less_52 (Nat.le_of_ble_eq_true rfl) rfl) ?_
  rfl
theorem e_X1_less_54 (v1 : Option Nat) (v2 : Int32) (v3 : Int32) (v4 : Int32) (v5 : Int32) (v6 : Int32) (v7 : Int32) (v8 : Value) (h : mx_H)  : mx_D (4, mm_X1_less, 54, [.ref 28, mx_rf v1, .int v2, .int v3, .int v4, .int v5, .int v6, .int v7, v8], []) h = if v4 < v7 then some (some (.int v6), h) else (if v5 = 0 then mx_D (4, mm_X1_less, 83, [.ref 28, mx_rf v1, .int v2, .int v3, .int v4, .int v5, .int v6, .int v7, v8], []) h else (if v7 = v4 then (mx_C mm_X1_bitOf [.ref 28, .int v2, .int v7] h).bind (fun o => mx_D (4, mm_X1_less, 80, [.ref 28, mx_rf v1, .int v2, .int v3, .int v4, .int v5, .int v6, .int v7, v8], o.1.toList ++ []) o.2) else (mx_D (4, mm_X1_less, 83, [.ref 28, mx_rf v1, .int v2, .int v3, .int v4, .int v5, .int v6, .int v7, v8], []) h))) := by
  refine Eq.trans (q_iload dX1_less_54 rfl) ?_
  refine Eq.trans (q_iload dX1_less_56 rfl) ?_
  refine Eq.trans (q_icmp_gt 132 dX1_less_58 rfl) (q_ite2 ?_ ?_)
  · refine Eq.trans (q_iload dX1_less_132 rfl) ?_
    exact q_retI dX1_less_134 rfl
  · refine Eq.trans (q_iload dX1_less_61 rfl) ?_
    refine Eq.trans (q_if_eq 83 dX1_less_63 rfl) (q_ite2 ?_ ?_)
    · rfl
    · refine Eq.trans (q_iload dX1_less_66 rfl) ?_
      refine Eq.trans (q_iload dX1_less_68 rfl) ?_
      refine Eq.trans (q_icmp_ne 83 dX1_less_70 rfl) (q_ite2 ?_ ?_)
      · refine Eq.trans (q_aload_n dX1_less_73 rfl rfl) ?_
        refine Eq.trans (q_iload_n dX1_less_74 rfl) ?_
        refine Eq.trans (q_iload dX1_less_75 rfl) ?_
        exact q_call0 (as := [.int v2, .int v7]) (rest := []) dX1_less_77 mx_inv_1_54 rfl rfl rfl ⟨Nat.le_of_ble_eq_true rfl, Nat.le_of_ble_eq_true rfl, (Nat.le_of_ble_eq_true rfl)⟩
      · rfl
theorem e_X1_less_80 (v1 : Option Nat) (v2 : Int32) (v3 : Int32) (v4 : Int32) (v5 : Int32) (v6 : Int32) (v7 : Int32) (v8 : Value) (s0 : Int32) (h : mx_H)  : mx_D (4, mm_X1_less, 80, [.ref 28, mx_rf v1, .int v2, .int v3, .int v4, .int v5, .int v6, .int v7, v8], [.int s0]) h = mx_D (4, mm_X1_less, 90, [.ref 28, mx_rf v1, .int v2, .int v3, .int v4, .int v5, .int v6, .int v7, v8], [.int s0]) h := by
  refine Eq.trans (q_goto 90 dX1_less_80 rfl) ?_
  rfl
theorem e_X1_less_83 (v1 : Option Nat) (v2 : Int32) (v3 : Int32) (v4 : Int32) (v5 : Int32) (v6 : Int32) (v7 : Int32) (v8 : Value) (h : mx_H)  : mx_D (4, mm_X1_less, 83, [.ref 28, mx_rf v1, .int v2, .int v3, .int v4, .int v5, .int v6, .int v7, v8], []) h = (mx_C mm_X1_bitOf [.ref 28, .int v3, .int v7] h).bind (fun o => mx_D (4, mm_X1_less, 90, [.ref 28, mx_rf v1, .int v2, .int v3, .int v4, .int v5, .int v6, .int v7, v8], o.1.toList ++ []) o.2) := by
  refine Eq.trans (q_aload_n dX1_less_83 rfl rfl) ?_
  refine Eq.trans (q_iload_n dX1_less_84 rfl) ?_
  refine Eq.trans (q_iload dX1_less_85 rfl) ?_
  exact q_call0 (as := [.int v3, .int v7]) (rest := []) dX1_less_87 mx_inv_1_54 rfl rfl rfl ⟨Nat.le_of_ble_eq_true rfl, Nat.le_of_ble_eq_true rfl, (Nat.le_of_ble_eq_true rfl)⟩
theorem e_X1_less_90 (v1 : Option Nat) (v2 : Int32) (v3 : Int32) (v4 : Int32) (v5 : Int32) (v6 : Int32) (v7 : Int32) (v8 : Value) (s0 : Int32) (h : mx_H)  : mx_D (4, mm_X1_less, 90, [.ref 28, mx_rf v1, .int v2, .int v3, .int v4, .int v5, .int v6, .int v7, v8], [.int s0]) h = (mx_C mm_X1_bitOf [.ref 28, .int v2, .int v7] h).bind (fun o => mx_D (4, mm_X1_less, 107, [.ref 28, mx_rf v1, .int v2, .int v3, .int v4, .int v5, .int v6, .int v7, .int s0], o.1.toList ++ [.ref 22, .ref 22]) o.2) := by
  refine Eq.trans (q_istore (L' := [.ref 28, mx_rf v1, .int v2, .int v3, .int v4, .int v5, .int v6, .int v7, .int s0]) dX1_less_90 (Nat.le_of_ble_eq_true rfl) rfl) ?_
  refine Eq.trans (q_aload_n dX1_less_92 rfl rfl) ?_
  refine Eq.trans (q_getf dX1_less_93 mx_fld_1_28 (gf_28_1 _)) ?_
  refine Eq.trans (q_aload_n dX1_less_96 rfl rfl) ?_
  refine Eq.trans (q_getf dX1_less_97 mx_fld_1_28 (gf_28_1 _)) ?_
  refine Eq.trans (q_aload_n dX1_less_100 rfl rfl) ?_
  refine Eq.trans (q_iload_n dX1_less_101 rfl) ?_
  refine Eq.trans (q_iload dX1_less_102 rfl) ?_
  exact q_call0 (as := [.int v2, .int v7]) (rest := [.ref 22, .ref 22]) dX1_less_104 mx_inv_1_54 rfl rfl rfl ⟨Nat.le_of_ble_eq_true rfl, Nat.le_of_ble_eq_true rfl, (Nat.le_of_ble_eq_true rfl)⟩
theorem e_X1_less_107 (v1 : Option Nat) (v2 : Int32) (v3 : Int32) (v4 : Int32) (v5 : Int32) (v6 : Int32) (v7 : Int32) (v8 : Int32) (s2 : Int32) (h : mx_H)  : mx_D (4, mm_X1_less, 107, [.ref 28, mx_rf v1, .int v2, .int v3, .int v4, .int v5, .int v6, .int v7, .int v8], [.int s2, .ref 22, .ref 22]) h = (mx_C mm_X1_bitOf [.ref 28, .int v3, .int v7] h).bind (fun o => mx_D (4, mm_X1_less, 114, [.ref 28, mx_rf v1, .int v2, .int v3, .int v4, .int v5, .int v6, .int v7, .int v8], o.1.toList ++ [.int s2, .ref 22, .ref 22]) o.2) := by
  refine Eq.trans (q_aload_n dX1_less_107 rfl rfl) ?_
  refine Eq.trans (q_iload_n dX1_less_108 rfl) ?_
  refine Eq.trans (q_iload dX1_less_109 rfl) ?_
  exact q_call0 (as := [.int v3, .int v7]) (rest := [.int s2, .ref 22, .ref 22]) dX1_less_111 mx_inv_1_54 rfl rfl rfl ⟨Nat.le_of_ble_eq_true rfl, Nat.le_of_ble_eq_true rfl, (Nat.le_of_ble_eq_true rfl)⟩
theorem e_X1_less_114 (v1 : Option Nat) (v2 : Int32) (v3 : Int32) (v4 : Int32) (v5 : Int32) (v6 : Int32) (v7 : Int32) (v8 : Int32) (s2 : Int32) (s3 : Int32) (h : mx_H)  : mx_D (4, mm_X1_less, 114, [.ref 28, mx_rf v1, .int v2, .int v3, .int v4, .int v5, .int v6, .int v7, .int v8], [.int s3, .int s2, .ref 22, .ref 22]) h = (mx_C mm_X3_xor [.ref 22, .int s2, .int s3] h).bind (fun o => mx_D (4, mm_X1_less, 117, [.ref 28, mx_rf v1, .int v2, .int v3, .int v4, .int v5, .int v6, .int v7, .int v8], o.1.toList ++ [.ref 22]) o.2) := by
  exact q_call0 (as := [.int s2, .int s3]) (rest := [.ref 22]) dX1_less_114 mx_inv_1_133 rfl rfl rfl ⟨Nat.le_of_ble_eq_true rfl, Nat.le_of_ble_eq_true rfl, (Nat.le_of_ble_eq_true rfl)⟩
theorem e_X1_less_117 (v1 : Option Nat) (v2 : Int32) (v3 : Int32) (v4 : Int32) (v5 : Int32) (v6 : Int32) (v7 : Int32) (v8 : Int32) (s1 : Int32) (h : mx_H)  : mx_D (4, mm_X1_less, 117, [.ref 28, mx_rf v1, .int v2, .int v3, .int v4, .int v5, .int v6, .int v7, .int v8], [.int s1, .ref 22]) h = (mx_C mm_X3_mux [.ref 22, .int s1, .int v8, .int v6] h).bind (fun o => mx_D (4, mm_X1_less, 124, [.ref 28, mx_rf v1, .int v2, .int v3, .int v4, .int v5, .int v6, .int v7, .int v8], o.1.toList ++ []) o.2) := by
  refine Eq.trans (q_iload dX1_less_117 rfl) ?_
  refine Eq.trans (q_iload dX1_less_119 rfl) ?_
  exact q_call0 (as := [.int s1, .int v8, .int v6]) (rest := []) dX1_less_121 mx_inv_1_136 rfl rfl rfl ⟨Nat.le_of_ble_eq_true rfl, Nat.le_of_ble_eq_true rfl, (Nat.le_of_ble_eq_true rfl)⟩
theorem e_X1_less_124 (v1 : Option Nat) (v2 : Int32) (v3 : Int32) (v4 : Int32) (v5 : Int32) (v6 : Int32) (v7 : Int32) (v8 : Int32) (s0 : Int32) (h : mx_H)  : mx_D (4, mm_X1_less, 124, [.ref 28, mx_rf v1, .int v2, .int v3, .int v4, .int v5, .int v6, .int v7, .int v8], [.int s0]) h = mx_D (4, mm_X1_less, 54, [.ref 28, mx_rf v1, .int v2, .int v3, .int v4, .int v5, .int s0, .int (v7 + 1), .int v8], []) h := by
  refine Eq.trans (q_istore (L' := [.ref 28, mx_rf v1, .int v2, .int v3, .int v4, .int v5, .int s0, .int v7, .int v8]) dX1_less_124 (Nat.le_of_ble_eq_true rfl) rfl) ?_
  refine Eq.trans (q_iinc (x' := 1) (L' := [.ref 28, mx_rf v1, .int v2, .int v3, .int v4, .int v5, .int s0, .int (v7 + 1), .int v8]) dX1_less_126 rfl rfl rfl) ?_
  refine Eq.trans (q_goto 54 dX1_less_129 rfl) ?_
  rfl
theorem e_X1_place_0 (v1 : Option Nat) (v2 : Int32) (v3 : Int32) (h : mx_H) (hq0 : mx_wr (mx_rf v1) = true) : mx_D (4, mm_X1_place, 0, [.ref 28, mx_rf v1, .int v2, .int v3, mx_junk, mx_junk, mx_junk, mx_junk, mx_junk], []) h = if (mx_rf v1 : Value) = .ref 1036 then mx_D (4, mm_X1_place, 12, [.ref 28, mx_rf v1, .int v2, .int v3, mx_junk, mx_junk, mx_junk, mx_junk, mx_junk], [.int v3]) h else (mx_D (4, mm_X1_place, 12, [.ref 28, mx_rf v1, .int v2, .int v3, mx_junk, mx_junk, mx_junk, mx_junk, mx_junk], [.int v2]) h) := by
  refine Eq.trans (q_aload_n dX1_place_0 rfl (mx_ar_rf _)) ?_
  refine Eq.trans (q_gets dX1_place_1 mx_sta_1_149) ?_
  refine Eq.trans (q_acmp_ne 11 dX1_place_4 hq0 rfl rfl) (q_ite2 ?_ ?_)
  · refine Eq.trans (q_iload_n dX1_place_7 rfl) ?_
    refine Eq.trans (q_goto 12 dX1_place_8 rfl) ?_
    rfl
  · refine Eq.trans (q_iload_n dX1_place_11 rfl) ?_
    rfl
theorem c_X1_place (v1 : Option Nat) (v2 : Int32) (v3 : Int32) (h : mx_H) : mx_C mm_X1_place [.ref 28, mx_rf v1, .int v2, .int v3] h = mx_D (4, mm_X1_place, 0, [.ref 28, mx_rf v1, .int v2, .int v3, mx_junk, mx_junk, mx_junk, mx_junk, mx_junk], []) h := (by cases v1 <;> exact rfl)
theorem e_X1_place_12 (v1 : Option Nat) (v2 : Int32) (v3 : Int32) (s0 : Int32) (h : mx_H) (hq0 : mx_wr (mx_rf v1) = true) : mx_D (4, mm_X1_place, 12, [.ref 28, mx_rf v1, .int v2, .int v3, mx_junk, mx_junk, mx_junk, mx_junk, mx_junk], [.int s0]) h = if (mx_rf v1 : Value) = .ref 1037 then (mx_C mm_X7_numberOf [.ref 6, .int (h.1 28 3), .int 1] h).bind (fun o => mx_D (4, mm_X1_place, 33, [.ref 28, mx_rf v1, .int v2, .int v3, .int s0, mx_junk, mx_junk, mx_junk, mx_junk], o.1.toList ++ []) o.2) else (mx_D (4, mm_X1_place, 37, [.ref 28, mx_rf v1, .int v2, .int v3, .int s0, mx_junk, mx_junk, mx_junk, mx_junk], [.int 0]) h) := by
  refine Eq.trans (q_istore (L' := [.ref 28, mx_rf v1, .int v2, .int v3, .int s0, mx_junk, mx_junk, mx_junk, mx_junk]) dX1_place_12 (Nat.le_of_ble_eq_true rfl) rfl) ?_
  refine Eq.trans (q_aload_n dX1_place_14 rfl (mx_ar_rf _)) ?_
  refine Eq.trans (q_gets dX1_place_15 mx_sta_1_152) ?_
  refine Eq.trans (q_acmp_ne 36 dX1_place_18 hq0 rfl rfl) (q_ite2 ?_ ?_)
  · refine Eq.trans (q_aload_n dX1_place_21 rfl rfl) ?_
    refine Eq.trans (q_getf dX1_place_22 mx_fld_1_24 (gf_28_0 _)) ?_
    refine Eq.trans (q_aload_n dX1_place_25 rfl rfl) ?_
    refine Eq.trans (q_getf dX1_place_26 mx_fld_1_32 (gf_28_3 _)) ?_
    refine Eq.trans (q_iconst (x := 1) dX1_place_29 rfl) ?_
    exact q_call0 (as := [.int (h.1 28 3), .int 1]) (rest := []) dX1_place_30 mx_inv_1_101 rfl rfl rfl ⟨Nat.le_of_ble_eq_true rfl, Nat.le_of_ble_eq_true rfl, (Nat.le_of_ble_eq_true rfl)⟩
  · refine Eq.trans (q_iconst (x := 0) dX1_place_36 rfl) ?_
    rfl
theorem e_X1_place_33 (v1 : Option Nat) (v2 : Int32) (v3 : Int32) (v4 : Int32) (s0 : Int32) (h : mx_H)  : mx_D (4, mm_X1_place, 33, [.ref 28, mx_rf v1, .int v2, .int v3, .int v4, mx_junk, mx_junk, mx_junk, mx_junk], [.int s0]) h = mx_D (4, mm_X1_place, 37, [.ref 28, mx_rf v1, .int v2, .int v3, .int v4, mx_junk, mx_junk, mx_junk, mx_junk], [.int s0]) h := by
  refine Eq.trans (q_goto 37 dX1_place_33 rfl) ?_
  rfl
theorem e_X1_place_37 (v1 : Option Nat) (v2 : Int32) (v3 : Int32) (v4 : Int32) (s0 : Int32) (h : mx_H)  : mx_D (4, mm_X1_place, 37, [.ref 28, mx_rf v1, .int v2, .int v3, .int v4, mx_junk, mx_junk, mx_junk, mx_junk], [.int s0]) h = (mx_C mm_X1_widthOf [.ref 28, .int v4] h).bind (fun o => mx_D (4, mm_X1_place, 45, [.ref 28, mx_rf v1, .int v2, .int v3, .int v4, .int s0, mx_junk, mx_junk, mx_junk], o.1.toList ++ []) o.2) := by
  refine Eq.trans (q_istore (L' := [.ref 28, mx_rf v1, .int v2, .int v3, .int v4, .int s0, mx_junk, mx_junk, mx_junk]) dX1_place_37 (Nat.le_of_ble_eq_true rfl) rfl) ?_
  refine Eq.trans (q_aload_n dX1_place_39 rfl rfl) ?_
  refine Eq.trans (q_iload dX1_place_40 rfl) ?_
  exact q_call0 (as := [.int v4]) (rest := []) dX1_place_42 mx_inv_1_110 rfl rfl rfl ⟨Nat.le_of_ble_eq_true rfl, Nat.le_of_ble_eq_true rfl, (Nat.le_of_ble_eq_true rfl)⟩
theorem e_X1_place_45 (v1 : Option Nat) (v2 : Int32) (v3 : Int32) (v4 : Int32) (v5 : Int32) (s0 : Int32) (h : mx_H) (hq0 : mx_wr (mx_rf v1) = true) : mx_D (4, mm_X1_place, 45, [.ref 28, mx_rf v1, .int v2, .int v3, .int v4, .int v5, mx_junk, mx_junk, mx_junk], [.int s0]) h = if (mx_rf v1 : Value) = .ref 1039 then (mx_C mm_X1_bitOf [.ref 28, .int v2, .int (s0 - 1)] h).bind (fun o => mx_D (4, mm_X1_place, 63, [.ref 28, mx_rf v1, .int v2, .int v3, .int v4, .int v5, .int s0, mx_junk, mx_junk], o.1.toList ++ []) o.2) else (mx_D (4, mm_X1_place, 67, [.ref 28, mx_rf v1, .int v2, .int v3, .int v4, .int v5, .int s0, mx_junk, mx_junk], [.int 1]) h) := by
  refine Eq.trans (q_istore (L' := [.ref 28, mx_rf v1, .int v2, .int v3, .int v4, .int v5, .int s0, mx_junk, mx_junk]) dX1_place_45 (Nat.le_of_ble_eq_true rfl) rfl) ?_
  refine Eq.trans (q_aload_n dX1_place_47 rfl (mx_ar_rf _)) ?_
  refine Eq.trans (q_gets dX1_place_48 mx_sta_1_155) ?_
  refine Eq.trans (q_acmp_ne 66 dX1_place_51 hq0 rfl rfl) (q_ite2 ?_ ?_)
  · refine Eq.trans (q_aload_n dX1_place_54 rfl rfl) ?_
    refine Eq.trans (q_iload_n dX1_place_55 rfl) ?_
    refine Eq.trans (q_iload dX1_place_56 rfl) ?_
    refine Eq.trans (q_iconst (x := 1) dX1_place_58 rfl) ?_
    refine Eq.trans (q_isub dX1_place_59) ?_
    exact q_call0 (as := [.int v2, .int (s0 - 1)]) (rest := []) dX1_place_60 mx_inv_1_54 rfl rfl rfl ⟨Nat.le_of_ble_eq_true rfl, Nat.le_of_ble_eq_true rfl, (Nat.le_of_ble_eq_true rfl)⟩
  · refine Eq.trans (q_iconst (x := 1) dX1_place_66 rfl) ?_
    rfl
theorem e_X1_place_63 (v1 : Option Nat) (v2 : Int32) (v3 : Int32) (v4 : Int32) (v5 : Int32) (v6 : Int32) (s0 : Int32) (h : mx_H)  : mx_D (4, mm_X1_place, 63, [.ref 28, mx_rf v1, .int v2, .int v3, .int v4, .int v5, .int v6, mx_junk, mx_junk], [.int s0]) h = mx_D (4, mm_X1_place, 67, [.ref 28, mx_rf v1, .int v2, .int v3, .int v4, .int v5, .int v6, mx_junk, mx_junk], [.int s0]) h := by
  refine Eq.trans (q_goto 67 dX1_place_63 rfl) ?_
  rfl
theorem e_X1_place_67 (v1 : Option Nat) (v2 : Int32) (v3 : Int32) (v4 : Int32) (v5 : Int32) (v6 : Int32) (s0 : Int32) (h : mx_H)  : mx_D (4, mm_X1_place, 67, [.ref 28, mx_rf v1, .int v2, .int v3, .int v4, .int v5, .int v6, mx_junk, mx_junk], [.int s0]) h = mx_D (4, mm_X1_place, 72, [.ref 28, mx_rf v1, .int v2, .int v3, .int v4, .int v5, .int v6, .int s0, .int 0], []) h := by
  refine Eq.trans (q_istore (L' := [.ref 28, mx_rf v1, .int v2, .int v3, .int v4, .int v5, .int v6, .int s0, mx_junk]) dX1_place_67 (Nat.le_of_ble_eq_true rfl) rfl) ?_
  refine Eq.trans (q_iconst (x := 0) dX1_place_69 rfl) ?_
  refine Eq.trans (q_istore (L' := [.ref 28, mx_rf v1, .int v2, .int v3, .int v4, .int v5, .int v6, .int s0, .int 0]) dX1_place_70 (Nat.le_of_ble_eq_true rfl) rfl) ?_
  rfl
theorem e_X1_place_72 (v1 : Option Nat) (v2 : Int32) (v3 : Int32) (v4 : Int32) (v5 : Int32) (v6 : Int32) (v7 : Int32) (v8 : Int32) (h : mx_H)  : mx_D (4, mm_X1_place, 72, [.ref 28, mx_rf v1, .int v2, .int v3, .int v4, .int v5, .int v6, .int v7, .int v8], []) h = (mx_C mm_X1_widthOf [.ref 28, .int (h.1 28 3)] h).bind (fun o => mx_D (4, mm_X1_place, 82, [.ref 28, mx_rf v1, .int v2, .int v3, .int v4, .int v5, .int v6, .int v7, .int v8], o.1.toList ++ [.int v8]) o.2) := by
  refine Eq.trans (q_iload dX1_place_72 rfl) ?_
  refine Eq.trans (q_aload_n dX1_place_74 rfl rfl) ?_
  refine Eq.trans (q_aload_n dX1_place_75 rfl rfl) ?_
  refine Eq.trans (q_getf dX1_place_76 mx_fld_1_32 (gf_28_3 _)) ?_
  exact q_call0 (as := [.int (h.1 28 3)]) (rest := [.int v8]) dX1_place_79 mx_inv_1_110 rfl rfl rfl ⟨Nat.le_of_ble_eq_true rfl, Nat.le_of_ble_eq_true rfl, (Nat.le_of_ble_eq_true rfl)⟩
theorem e_X1_place_82 (v1 : Option Nat) (v2 : Int32) (v3 : Int32) (v4 : Int32) (v5 : Int32) (v6 : Int32) (v7 : Int32) (v8 : Int32) (s0 : Int32) (s1 : Int32) (h : mx_H) (hq0 : mx_wr (mx_rf v1) = true) : mx_D (4, mm_X1_place, 82, [.ref 28, mx_rf v1, .int v2, .int v3, .int v4, .int v5, .int v6, .int v7, .int v8], [.int s1, .int s0]) h = if s1 ≤ s0 then some (none, h) else (if v6 ≤ (v8 + v5) then if (mx_rf v1 : Value) = .ref 1036 then (mx_C mm_X1_bitOf [.ref 28, .int v2, .int (v8 - v6)] h).bind (fun o => mx_D (4, mm_X1_place, 135, [.ref 28, mx_rf v1, .int v2, .int v3, .int v4, .int v5, .int v6, .int v7, .int v8], o.1.toList ++ [.int v8, .ref 28]) o.2) else (mx_D (4, mm_X1_place, 140, [.ref 28, mx_rf v1, .int v2, .int v3, .int v4, .int v5, .int v6, .int v7, .int v8], [.int v7, .int v8, .ref 28]) h) else ((mx_C mm_X1_bitOf [.ref 28, .int v4, .int (v8 + v5)] h).bind (fun o => mx_D (4, mm_X1_place, 109, [.ref 28, mx_rf v1, .int v2, .int v3, .int v4, .int v5, .int v6, .int v7, .int v8], o.1.toList ++ [.int v8, .ref 28]) o.2))) := by
  refine Eq.trans (q_icmp_ge 149 dX1_place_82 rfl) (q_ite2 ?_ ?_)
  · exact q_retV dX1_place_149 rfl
  · refine Eq.trans (q_iload dX1_place_85 rfl) ?_
    refine Eq.trans (q_iload dX1_place_87 rfl) ?_
    refine Eq.trans (q_iadd dX1_place_89) ?_
    refine Eq.trans (q_iload dX1_place_90 rfl) ?_
    refine Eq.trans (q_icmp_ge 115 dX1_place_92 rfl) (q_ite2 ?_ ?_)
    · refine Eq.trans (q_aload_n dX1_place_115 rfl rfl) ?_
      refine Eq.trans (q_iload dX1_place_116 rfl) ?_
      refine Eq.trans (q_aload_n dX1_place_118 rfl (mx_ar_rf _)) ?_
      refine Eq.trans (q_gets dX1_place_119 mx_sta_1_149) ?_
      refine Eq.trans (q_acmp_ne 138 dX1_place_122 hq0 rfl rfl) (q_ite2 ?_ ?_)
      · refine Eq.trans (q_aload_n dX1_place_125 rfl rfl) ?_
        refine Eq.trans (q_iload_n dX1_place_126 rfl) ?_
        refine Eq.trans (q_iload dX1_place_127 rfl) ?_
        refine Eq.trans (q_iload dX1_place_129 rfl) ?_
        refine Eq.trans (q_isub dX1_place_131) ?_
        exact q_call0 (as := [.int v2, .int (v8 - v6)]) (rest := [.int v8, .ref 28]) dX1_place_132 mx_inv_1_54 rfl rfl rfl ⟨Nat.le_of_ble_eq_true rfl, Nat.le_of_ble_eq_true rfl, (Nat.le_of_ble_eq_true rfl)⟩
      · refine Eq.trans (q_iload dX1_place_138 rfl) ?_
        rfl
    · refine Eq.trans (q_aload_n dX1_place_95 rfl rfl) ?_
      refine Eq.trans (q_iload dX1_place_96 rfl) ?_
      refine Eq.trans (q_aload_n dX1_place_98 rfl rfl) ?_
      refine Eq.trans (q_iload dX1_place_99 rfl) ?_
      refine Eq.trans (q_iload dX1_place_101 rfl) ?_
      refine Eq.trans (q_iload dX1_place_103 rfl) ?_
      refine Eq.trans (q_iadd dX1_place_105) ?_
      exact q_call0 (as := [.int v4, .int (v8 + v5)]) (rest := [.int v8, .ref 28]) dX1_place_106 mx_inv_1_54 rfl rfl rfl ⟨Nat.le_of_ble_eq_true rfl, Nat.le_of_ble_eq_true rfl, (Nat.le_of_ble_eq_true rfl)⟩
theorem e_X1_place_109 (v1 : Option Nat) (v2 : Int32) (v3 : Int32) (v4 : Int32) (v5 : Int32) (v6 : Int32) (v7 : Int32) (v8 : Int32) (s1 : Int32) (s2 : Int32) (h : mx_H)  : mx_D (4, mm_X1_place, 109, [.ref 28, mx_rf v1, .int v2, .int v3, .int v4, .int v5, .int v6, .int v7, .int v8], [.int s2, .int s1, .ref 28]) h = (mx_C mm_X1_set [.ref 28, .int s1, .int s2] h).bind (fun o => mx_D (4, mm_X1_place, 112, [.ref 28, mx_rf v1, .int v2, .int v3, .int v4, .int v5, .int v6, .int v7, .int v8], o.1.toList ++ []) o.2) := by
  exact q_call0 (as := [.int s1, .int s2]) (rest := []) dX1_place_109 mx_inv_1_61 rfl rfl rfl ⟨Nat.le_of_ble_eq_true rfl, Nat.le_of_ble_eq_true rfl, (Nat.le_of_ble_eq_true rfl)⟩
theorem e_X1_place_112 (v1 : Option Nat) (v2 : Int32) (v3 : Int32) (v4 : Int32) (v5 : Int32) (v6 : Int32) (v7 : Int32) (v8 : Int32) (h : mx_H)  : mx_D (4, mm_X1_place, 112, [.ref 28, mx_rf v1, .int v2, .int v3, .int v4, .int v5, .int v6, .int v7, .int v8], []) h = mx_D (4, mm_X1_place, 143, [.ref 28, mx_rf v1, .int v2, .int v3, .int v4, .int v5, .int v6, .int v7, .int v8], []) h := by
  refine Eq.trans (q_goto 143 dX1_place_112 rfl) ?_
  rfl
theorem e_X1_place_135 (v1 : Option Nat) (v2 : Int32) (v3 : Int32) (v4 : Int32) (v5 : Int32) (v6 : Int32) (v7 : Int32) (v8 : Int32) (s1 : Int32) (s2 : Int32) (h : mx_H)  : mx_D (4, mm_X1_place, 135, [.ref 28, mx_rf v1, .int v2, .int v3, .int v4, .int v5, .int v6, .int v7, .int v8], [.int s2, .int s1, .ref 28]) h = mx_D (4, mm_X1_place, 140, [.ref 28, mx_rf v1, .int v2, .int v3, .int v4, .int v5, .int v6, .int v7, .int v8], [.int s2, .int s1, .ref 28]) h := by
  refine Eq.trans (q_goto 140 dX1_place_135 rfl) ?_
  rfl
theorem e_X1_place_140 (v1 : Option Nat) (v2 : Int32) (v3 : Int32) (v4 : Int32) (v5 : Int32) (v6 : Int32) (v7 : Int32) (v8 : Int32) (s1 : Int32) (s2 : Int32) (h : mx_H)  : mx_D (4, mm_X1_place, 140, [.ref 28, mx_rf v1, .int v2, .int v3, .int v4, .int v5, .int v6, .int v7, .int v8], [.int s2, .int s1, .ref 28]) h = (mx_C mm_X1_set [.ref 28, .int s1, .int s2] h).bind (fun o => mx_D (4, mm_X1_place, 143, [.ref 28, mx_rf v1, .int v2, .int v3, .int v4, .int v5, .int v6, .int v7, .int v8], o.1.toList ++ []) o.2) := by
  exact q_call0 (as := [.int s1, .int s2]) (rest := []) dX1_place_140 mx_inv_1_61 rfl rfl rfl ⟨Nat.le_of_ble_eq_true rfl, Nat.le_of_ble_eq_true rfl, (Nat.le_of_ble_eq_true rfl)⟩
theorem e_X1_place_143 (v1 : Option Nat) (v2 : Int32) (v3 : Int32) (v4 : Int32) (v5 : Int32) (v6 : Int32) (v7 : Int32) (v8 : Int32) (h : mx_H)  : mx_D (4, mm_X1_place, 143, [.ref 28, mx_rf v1, .int v2, .int v3, .int v4, .int v5, .int v6, .int v7, .int v8], []) h = mx_D (4, mm_X1_place, 72, [.ref 28, mx_rf v1, .int v2, .int v3, .int v4, .int v5, .int v6, .int v7, .int (v8 + 1)], []) h := by
  refine Eq.trans (q_iinc (x' := 1) (L' := [.ref 28, mx_rf v1, .int v2, .int v3, .int v4, .int v5, .int v6, .int v7, .int (v8 + 1)]) dX1_place_143 rfl rfl rfl) ?_
  refine Eq.trans (q_goto 72 dX1_place_146 rfl) ?_
  rfl
theorem e_X1_reach_0 (v1 : Option Nat) (v2 : Int32) (v3 : Int32) (v4 : Int32) (h : mx_H)  : mx_D (4, mm_X1_reach, 0, [.ref 28, mx_rf v1, .int v2, .int v3, .int v4, mx_junk, mx_junk, mx_junk, mx_junk, mx_junk], []) h = (mx_C mm_X1_widthOf [.ref 28, .int v2] h).bind (fun o => mx_D (4, mm_X1_reach, 5, [.ref 28, mx_rf v1, .int v2, .int v3, .int v4, mx_junk, mx_junk, mx_junk, mx_junk, mx_junk], o.1.toList ++ []) o.2) := by
  refine Eq.trans (q_aload_n dX1_reach_0 rfl rfl) ?_
  refine Eq.trans (q_iload_n dX1_reach_1 rfl) ?_
  exact q_call0 (as := [.int v2]) (rest := []) dX1_reach_2 mx_inv_1_110 rfl rfl rfl ⟨Nat.le_of_ble_eq_true rfl, Nat.le_of_ble_eq_true rfl, (Nat.le_of_ble_eq_true rfl)⟩
theorem c_X1_reach (v1 : Option Nat) (v2 : Int32) (v3 : Int32) (v4 : Int32) (h : mx_H) : mx_C mm_X1_reach [.ref 28, mx_rf v1, .int v2, .int v3, .int v4] h = mx_D (4, mm_X1_reach, 0, [.ref 28, mx_rf v1, .int v2, .int v3, .int v4, mx_junk, mx_junk, mx_junk, mx_junk, mx_junk], []) h := (by cases v1 <;> exact rfl)
theorem e_X1_reach_5 (v1 : Option Nat) (v2 : Int32) (v3 : Int32) (v4 : Int32) (s0 : Int32) (h : mx_H)  : mx_D (4, mm_X1_reach, 5, [.ref 28, mx_rf v1, .int v2, .int v3, .int v4, mx_junk, mx_junk, mx_junk, mx_junk, mx_junk], [.int s0]) h = if 2 = 0 then none else (mx_C mm_X1_bitOf [.ref 28, .int v3, .int 0] h).bind (fun o => mx_D (4, mm_X1_reach, 15, [.ref 28, mx_rf v1, .int v2, .int v3, .int v4, .int (s0 / 2), mx_junk, mx_junk, mx_junk, mx_junk], o.1.toList ++ []) o.2) := by
  refine Eq.trans (q_iconst (x := 2) dX1_reach_5 rfl) ?_
  refine Eq.trans (q_idiv dX1_reach_6) (q_ite2 rfl ?_)
  refine Eq.trans (q_istore (L' := [.ref 28, mx_rf v1, .int v2, .int v3, .int v4, .int (s0 / 2), mx_junk, mx_junk, mx_junk, mx_junk]) dX1_reach_7 (Nat.le_of_ble_eq_true rfl) rfl) ?_
  refine Eq.trans (q_aload_n dX1_reach_9 rfl rfl) ?_
  refine Eq.trans (q_iload_n dX1_reach_10 rfl) ?_
  refine Eq.trans (q_iconst (x := 0) dX1_reach_11 rfl) ?_
  exact q_call0 (as := [.int v3, .int 0]) (rest := []) dX1_reach_12 mx_inv_1_54 rfl rfl rfl ⟨Nat.le_of_ble_eq_true rfl, Nat.le_of_ble_eq_true rfl, (Nat.le_of_ble_eq_true rfl)⟩
theorem e_X1_reach_15 (v1 : Option Nat) (v2 : Int32) (v3 : Int32) (v4 : Int32) (v5 : Int32) (s0 : Int32) (h : mx_H)  : mx_D (4, mm_X1_reach, 15, [.ref 28, mx_rf v1, .int v2, .int v3, .int v4, .int v5, mx_junk, mx_junk, mx_junk, mx_junk], [.int s0]) h = mx_D (4, mm_X1_reach, 20, [.ref 28, mx_rf v1, .int v2, .int v3, .int v4, .int v5, .int s0, .int 0, mx_junk, mx_junk], []) h := by
  refine Eq.trans (q_istore (L' := [.ref 28, mx_rf v1, .int v2, .int v3, .int v4, .int v5, .int s0, mx_junk, mx_junk, mx_junk]) dX1_reach_15 (Nat.le_of_ble_eq_true rfl) rfl) ?_
  refine Eq.trans (q_iconst (x := 0) dX1_reach_17 rfl) ?_
  refine Eq.trans (q_istore (L' := [.ref 28, mx_rf v1, .int v2, .int v3, .int v4, .int v5, .int s0, .int 0, mx_junk, mx_junk]) dX1_reach_18 (Nat.le_of_ble_eq_true rfl) rfl) ?_
  rfl
theorem e_X1_reach_20 (v1 : Option Nat) (v2 : Int32) (v3 : Int32) (v4 : Int32) (v5 : Int32) (v6 : Int32) (v7 : Int32) (v8 : Value) (v9 : Value) (h : mx_H)  : mx_D (4, mm_X1_reach, 20, [.ref 28, mx_rf v1, .int v2, .int v3, .int v4, .int v5, .int v6, .int v7, v8, v9], []) h = if v5 ≤ v7 then some (none, h) else ((mx_C mm_X1_bitOf [.ref 28, .int v2, .int v7] h).bind (fun o => mx_D (4, mm_X1_reach, 34, [.ref 28, mx_rf v1, .int v2, .int v3, .int v4, .int v5, .int v6, .int v7, v8, v9], o.1.toList ++ []) o.2)) := by
  refine Eq.trans (q_iload dX1_reach_20 rfl) ?_
  refine Eq.trans (q_iload dX1_reach_22 rfl) ?_
  refine Eq.trans (q_icmp_ge 136 dX1_reach_24 rfl) (q_ite2 ?_ ?_)
  · exact q_retV dX1_reach_136 rfl
  · refine Eq.trans (q_aload_n dX1_reach_27 rfl rfl) ?_
    refine Eq.trans (q_iload_n dX1_reach_28 rfl) ?_
    refine Eq.trans (q_iload dX1_reach_29 rfl) ?_
    exact q_call0 (as := [.int v2, .int v7]) (rest := []) dX1_reach_31 mx_inv_1_54 rfl rfl rfl ⟨Nat.le_of_ble_eq_true rfl, Nat.le_of_ble_eq_true rfl, (Nat.le_of_ble_eq_true rfl)⟩
theorem e_X1_reach_34 (v1 : Option Nat) (v2 : Int32) (v3 : Int32) (v4 : Int32) (v5 : Int32) (v6 : Int32) (v7 : Int32) (v8 : Value) (v9 : Value) (s0 : Int32) (h : mx_H)  : mx_D (4, mm_X1_reach, 34, [.ref 28, mx_rf v1, .int v2, .int v3, .int v4, .int v5, .int v6, .int v7, v8, v9], [.int s0]) h = (mx_C mm_X1_bitOf [.ref 28, .int v2, .int (v5 + v7)] h).bind (fun o => mx_D (4, mm_X1_reach, 46, [.ref 28, mx_rf v1, .int v2, .int v3, .int v4, .int v5, .int v6, .int v7, .int s0, v9], o.1.toList ++ []) o.2) := by
  refine Eq.trans (q_istore (L' := [.ref 28, mx_rf v1, .int v2, .int v3, .int v4, .int v5, .int v6, .int v7, .int s0, v9]) dX1_reach_34 (Nat.le_of_ble_eq_true rfl) rfl) ?_
  refine Eq.trans (q_aload_n dX1_reach_36 rfl rfl) ?_
  refine Eq.trans (q_iload_n dX1_reach_37 rfl) ?_
  refine Eq.trans (q_iload dX1_reach_38 rfl) ?_
  refine Eq.trans (q_iload dX1_reach_40 rfl) ?_
  refine Eq.trans (q_iadd dX1_reach_42) ?_
  exact q_call0 (as := [.int v2, .int (v5 + v7)]) (rest := []) dX1_reach_43 mx_inv_1_54 rfl rfl rfl ⟨Nat.le_of_ble_eq_true rfl, Nat.le_of_ble_eq_true rfl, (Nat.le_of_ble_eq_true rfl)⟩
theorem e_X1_reach_46 (v1 : Option Nat) (v2 : Int32) (v3 : Int32) (v4 : Int32) (v5 : Int32) (v6 : Int32) (v7 : Int32) (v8 : Int32) (v9 : Value) (s0 : Int32) (h : mx_H) (hq0 : mx_wr (mx_rf v1) = true) : mx_D (4, mm_X1_reach, 46, [.ref 28, mx_rf v1, .int v2, .int v3, .int v4, .int v5, .int v6, .int v7, .int v8, v9], [.int s0]) h = if (mx_rf v1 : Value) = .ref 1040 then (mx_C mm_X3_mux [.ref 22, .int v6, .int s0, .int v8] h).bind (fun o => mx_D (4, mm_X1_reach, 71, [.ref 28, mx_rf v1, .int v2, .int v3, .int v4, .int v5, .int v6, .int v7, .int v8, .int s0], o.1.toList ++ [.int v7, .ref 28]) o.2) else ((mx_C mm_X1_bitOf [.ref 28, .int v4, .int v7] h).bind (fun o => mx_D (4, mm_X1_reach, 96, [.ref 28, mx_rf v1, .int v2, .int v3, .int v4, .int v5, .int v6, .int v7, .int v8, .int s0], o.1.toList ++ [.int v8, .int v6, .ref 22, .int v7, .ref 28]) o.2)) := by
  refine Eq.trans (q_istore (L' := [.ref 28, mx_rf v1, .int v2, .int v3, .int v4, .int v5, .int v6, .int v7, .int v8, .int s0]) dX1_reach_46 (Nat.le_of_ble_eq_true rfl) rfl) ?_
  refine Eq.trans (q_aload_n dX1_reach_48 rfl (mx_ar_rf _)) ?_
  refine Eq.trans (q_gets dX1_reach_49 mx_sta_1_158) ?_
  refine Eq.trans (q_acmp_ne 77 dX1_reach_52 hq0 rfl rfl) (q_ite2 ?_ ?_)
  · refine Eq.trans (q_aload_n dX1_reach_55 rfl rfl) ?_
    refine Eq.trans (q_iload dX1_reach_56 rfl) ?_
    refine Eq.trans (q_aload_n dX1_reach_58 rfl rfl) ?_
    refine Eq.trans (q_getf dX1_reach_59 mx_fld_1_28 (gf_28_1 _)) ?_
    refine Eq.trans (q_iload dX1_reach_62 rfl) ?_
    refine Eq.trans (q_iload dX1_reach_64 rfl) ?_
    refine Eq.trans (q_iload dX1_reach_66 rfl) ?_
    exact q_call0 (as := [.int v6, .int s0, .int v8]) (rest := [.int v7, .ref 28]) dX1_reach_68 mx_inv_1_136 rfl rfl rfl ⟨Nat.le_of_ble_eq_true rfl, Nat.le_of_ble_eq_true rfl, (Nat.le_of_ble_eq_true rfl)⟩
  · refine Eq.trans (q_aload_n dX1_reach_77 rfl rfl) ?_
    refine Eq.trans (q_iload dX1_reach_78 rfl) ?_
    refine Eq.trans (q_aload_n dX1_reach_80 rfl rfl) ?_
    refine Eq.trans (q_getf dX1_reach_81 mx_fld_1_28 (gf_28_1 _)) ?_
    refine Eq.trans (q_iload dX1_reach_84 rfl) ?_
    refine Eq.trans (q_iload dX1_reach_86 rfl) ?_
    refine Eq.trans (q_aload_n dX1_reach_88 rfl rfl) ?_
    refine Eq.trans (q_iload dX1_reach_89 rfl) ?_
    refine Eq.trans (q_iload dX1_reach_91 rfl) ?_
    exact q_call0 (as := [.int v4, .int v7]) (rest := [.int v8, .int v6, .ref 22, .int v7, .ref 28]) dX1_reach_93 mx_inv_1_54 rfl rfl rfl ⟨Nat.le_of_ble_eq_true rfl, Nat.le_of_ble_eq_true rfl, (Nat.le_of_ble_eq_true rfl)⟩
theorem e_X1_reach_71 (v1 : Option Nat) (v2 : Int32) (v3 : Int32) (v4 : Int32) (v5 : Int32) (v6 : Int32) (v7 : Int32) (v8 : Int32) (v9 : Int32) (s1 : Int32) (s2 : Int32) (h : mx_H)  : mx_D (4, mm_X1_reach, 71, [.ref 28, mx_rf v1, .int v2, .int v3, .int v4, .int v5, .int v6, .int v7, .int v8, .int v9], [.int s2, .int s1, .ref 28]) h = (mx_C mm_X1_set [.ref 28, .int s1, .int s2] h).bind (fun o => mx_D (4, mm_X1_reach, 74, [.ref 28, mx_rf v1, .int v2, .int v3, .int v4, .int v5, .int v6, .int v7, .int v8, .int v9], o.1.toList ++ []) o.2) := by
  exact q_call0 (as := [.int s1, .int s2]) (rest := []) dX1_reach_71 mx_inv_1_61 rfl rfl rfl ⟨Nat.le_of_ble_eq_true rfl, Nat.le_of_ble_eq_true rfl, (Nat.le_of_ble_eq_true rfl)⟩
theorem e_X1_reach_74 (v1 : Option Nat) (v2 : Int32) (v3 : Int32) (v4 : Int32) (v5 : Int32) (v6 : Int32) (v7 : Int32) (v8 : Int32) (v9 : Int32) (h : mx_H)  : mx_D (4, mm_X1_reach, 74, [.ref 28, mx_rf v1, .int v2, .int v3, .int v4, .int v5, .int v6, .int v7, .int v8, .int v9], []) h = mx_D (4, mm_X1_reach, 130, [.ref 28, mx_rf v1, .int v2, .int v3, .int v4, .int v5, .int v6, .int v7, .int v8, .int v9], []) h := by
  refine Eq.trans (q_goto 130 dX1_reach_74 rfl) ?_
  rfl
theorem e_X1_reach_96 (v1 : Option Nat) (v2 : Int32) (v3 : Int32) (v4 : Int32) (v5 : Int32) (v6 : Int32) (v7 : Int32) (v8 : Int32) (v9 : Int32) (s1 : Int32) (s3 : Int32) (s4 : Int32) (s5 : Int32) (h : mx_H)  : mx_D (4, mm_X1_reach, 96, [.ref 28, mx_rf v1, .int v2, .int v3, .int v4, .int v5, .int v6, .int v7, .int v8, .int v9], [.int s5, .int s4, .int s3, .ref 22, .int s1, .ref 28]) h = (mx_C mm_X3_mux [.ref 22, .int s3, .int s4, .int s5] h).bind (fun o => mx_D (4, mm_X1_reach, 99, [.ref 28, mx_rf v1, .int v2, .int v3, .int v4, .int v5, .int v6, .int v7, .int v8, .int v9], o.1.toList ++ [.int s1, .ref 28]) o.2) := by
  exact q_call0 (as := [.int s3, .int s4, .int s5]) (rest := [.int s1, .ref 28]) dX1_reach_96 mx_inv_1_136 rfl rfl rfl ⟨Nat.le_of_ble_eq_true rfl, Nat.le_of_ble_eq_true rfl, (Nat.le_of_ble_eq_true rfl)⟩
theorem e_X1_reach_99 (v1 : Option Nat) (v2 : Int32) (v3 : Int32) (v4 : Int32) (v5 : Int32) (v6 : Int32) (v7 : Int32) (v8 : Int32) (v9 : Int32) (s1 : Int32) (s2 : Int32) (h : mx_H)  : mx_D (4, mm_X1_reach, 99, [.ref 28, mx_rf v1, .int v2, .int v3, .int v4, .int v5, .int v6, .int v7, .int v8, .int v9], [.int s2, .int s1, .ref 28]) h = (mx_C mm_X1_set [.ref 28, .int s1, .int s2] h).bind (fun o => mx_D (4, mm_X1_reach, 102, [.ref 28, mx_rf v1, .int v2, .int v3, .int v4, .int v5, .int v6, .int v7, .int v8, .int v9], o.1.toList ++ []) o.2) := by
  exact q_call0 (as := [.int s1, .int s2]) (rest := []) dX1_reach_99 mx_inv_1_61 rfl rfl rfl ⟨Nat.le_of_ble_eq_true rfl, Nat.le_of_ble_eq_true rfl, (Nat.le_of_ble_eq_true rfl)⟩
theorem e_X1_reach_102 (v1 : Option Nat) (v2 : Int32) (v3 : Int32) (v4 : Int32) (v5 : Int32) (v6 : Int32) (v7 : Int32) (v8 : Int32) (v9 : Int32) (h : mx_H)  : mx_D (4, mm_X1_reach, 102, [.ref 28, mx_rf v1, .int v2, .int v3, .int v4, .int v5, .int v6, .int v7, .int v8, .int v9], []) h = (mx_C mm_X1_bitOf [.ref 28, .int v4, .int v7] h).bind (fun o => mx_D (4, mm_X1_reach, 122, [.ref 28, mx_rf v1, .int v2, .int v3, .int v4, .int v5, .int v6, .int v7, .int v8, .int v9], o.1.toList ++ [.int v6, .ref 22, .int (v5 + v7), .ref 28]) o.2) := by
  refine Eq.trans (q_aload_n dX1_reach_102 rfl rfl) ?_
  refine Eq.trans (q_iload dX1_reach_103 rfl) ?_
  refine Eq.trans (q_iload dX1_reach_105 rfl) ?_
  refine Eq.trans (q_iadd dX1_reach_107) ?_
  refine Eq.trans (q_aload_n dX1_reach_108 rfl rfl) ?_
  refine Eq.trans (q_getf dX1_reach_109 mx_fld_1_28 (gf_28_1 _)) ?_
  refine Eq.trans (q_iload dX1_reach_112 rfl) ?_
  refine Eq.trans (q_aload_n dX1_reach_114 rfl rfl) ?_
  refine Eq.trans (q_iload dX1_reach_115 rfl) ?_
  refine Eq.trans (q_iload dX1_reach_117 rfl) ?_
  exact q_call0 (as := [.int v4, .int v7]) (rest := [.int v6, .ref 22, .int (v5 + v7), .ref 28]) dX1_reach_119 mx_inv_1_54 rfl rfl rfl ⟨Nat.le_of_ble_eq_true rfl, Nat.le_of_ble_eq_true rfl, (Nat.le_of_ble_eq_true rfl)⟩
theorem e_X1_reach_122 (v1 : Option Nat) (v2 : Int32) (v3 : Int32) (v4 : Int32) (v5 : Int32) (v6 : Int32) (v7 : Int32) (v8 : Int32) (v9 : Int32) (s1 : Int32) (s3 : Int32) (s4 : Int32) (h : mx_H)  : mx_D (4, mm_X1_reach, 122, [.ref 28, mx_rf v1, .int v2, .int v3, .int v4, .int v5, .int v6, .int v7, .int v8, .int v9], [.int s4, .int s3, .ref 22, .int s1, .ref 28]) h = (mx_C mm_X3_mux [.ref 22, .int s3, .int s4, .int v9] h).bind (fun o => mx_D (4, mm_X1_reach, 127, [.ref 28, mx_rf v1, .int v2, .int v3, .int v4, .int v5, .int v6, .int v7, .int v8, .int v9], o.1.toList ++ [.int s1, .ref 28]) o.2) := by
  refine Eq.trans (q_iload dX1_reach_122 rfl) ?_
  exact q_call0 (as := [.int s3, .int s4, .int v9]) (rest := [.int s1, .ref 28]) dX1_reach_124 mx_inv_1_136 rfl rfl rfl ⟨Nat.le_of_ble_eq_true rfl, Nat.le_of_ble_eq_true rfl, (Nat.le_of_ble_eq_true rfl)⟩
theorem e_X1_reach_127 (v1 : Option Nat) (v2 : Int32) (v3 : Int32) (v4 : Int32) (v5 : Int32) (v6 : Int32) (v7 : Int32) (v8 : Int32) (v9 : Int32) (s1 : Int32) (s2 : Int32) (h : mx_H)  : mx_D (4, mm_X1_reach, 127, [.ref 28, mx_rf v1, .int v2, .int v3, .int v4, .int v5, .int v6, .int v7, .int v8, .int v9], [.int s2, .int s1, .ref 28]) h = (mx_C mm_X1_set [.ref 28, .int s1, .int s2] h).bind (fun o => mx_D (4, mm_X1_reach, 130, [.ref 28, mx_rf v1, .int v2, .int v3, .int v4, .int v5, .int v6, .int v7, .int v8, .int v9], o.1.toList ++ []) o.2) := by
  exact q_call0 (as := [.int s1, .int s2]) (rest := []) dX1_reach_127 mx_inv_1_61 rfl rfl rfl ⟨Nat.le_of_ble_eq_true rfl, Nat.le_of_ble_eq_true rfl, (Nat.le_of_ble_eq_true rfl)⟩
theorem e_X1_reach_130 (v1 : Option Nat) (v2 : Int32) (v3 : Int32) (v4 : Int32) (v5 : Int32) (v6 : Int32) (v7 : Int32) (v8 : Int32) (v9 : Int32) (h : mx_H)  : mx_D (4, mm_X1_reach, 130, [.ref 28, mx_rf v1, .int v2, .int v3, .int v4, .int v5, .int v6, .int v7, .int v8, .int v9], []) h = mx_D (4, mm_X1_reach, 20, [.ref 28, mx_rf v1, .int v2, .int v3, .int v4, .int v5, .int v6, .int (v7 + 1), .int v8, .int v9], []) h := by
  refine Eq.trans (q_iinc (x' := 1) (L' := [.ref 28, mx_rf v1, .int v2, .int v3, .int v4, .int v5, .int v6, .int (v7 + 1), .int v8, .int v9]) dX1_reach_130 rfl rfl rfl) ?_
  refine Eq.trans (q_goto 20 dX1_reach_133 rfl) ?_
  rfl
