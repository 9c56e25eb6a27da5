theorem e_X10_type_0 (v1 : Int32) (v2 : Int32) (h : mx_H)  : mx_D (3, mm_X10_type, 0, [.ref 0, .int v1, .int v2], []) h = (mx_C mm_X8_append [.ref 1, .int v1, .int v2] h).bind (fun o => mx_D (3, mm_X10_type, 9, [.ref 0, .int v1, .int v2], o.1.toList ++ []) o.2) := by
  refine Eq.trans (q_aload_n dX10_type_0 rfl rfl) ?_
  refine Eq.trans (q_getf dX10_type_1 mx_fld_10_12 (gf_0_0 _)) ?_
  refine Eq.trans (q_iload_n dX10_type_4 rfl) ?_
  refine Eq.trans (q_iload_n dX10_type_5 rfl) ?_
  exact q_call0 (as := [.int v1, .int v2]) (rest := []) dX10_type_6 mx_inv_10_72 rfl rfl rfl ⟨Nat.le_of_ble_eq_true rfl, Nat.le_of_ble_eq_true rfl, (Nat.le_of_ble_eq_true rfl)⟩
theorem c_X10_type (v1 : Int32) (v2 : Int32) (h : mx_H) : mx_C mm_X10_type [.ref 0, .int v1, .int v2] h = mx_D (3, mm_X10_type, 0, [.ref 0, .int v1, .int v2], []) h := rfl
theorem e_X10_type_9 (v1 : Int32) (v2 : Int32) (s0 : Int32) (h : mx_H)  : mx_D (3, mm_X10_type, 9, [.ref 0, .int v1, .int v2], [.int s0]) h = if narrow .boolean (.int s0) = .int s0 then some (some (.int s0), h) else none := by
  exact q_ret dX10_type_9 rfl
theorem e_X10_command_0  (h : mx_H)  : mx_D (37, mm_X10_command, 0, [.ref 0, mx_junk, mx_junk, mx_junk, mx_junk, mx_junk], []) h = (mx_C mm_X8_split [.ref 1] h).bind (fun o => mx_D (37, mm_X10_command, 15, [.ref 0, .int (h.1 6 4), mx_junk, mx_junk, mx_junk, mx_junk], o.1.toList ++ []) o.2) := by
  refine Eq.trans (q_aload_n dX10_command_0 rfl rfl) ?_
  refine Eq.trans (q_getf dX10_command_1 mx_fld_10_19 (gf_0_1 _)) ?_
  refine Eq.trans (q_getf dX10_command_4 mx_fld_10_76 (gf_6_4 _)) ?_
  refine Eq.trans (q_istore_n (L' := [.ref 0, .int (h.1 6 4), mx_junk, mx_junk, mx_junk, mx_junk]) dX10_command_7 (Nat.le_of_ble_eq_true rfl) rfl) ?_
  refine Eq.trans (q_aload_n dX10_command_8 rfl rfl) ?_
  refine Eq.trans (q_getf dX10_command_9 mx_fld_10_12 (gf_0_0 _)) ?_
  exact q_call0 (as := []) (rest := []) dX10_command_12 mx_inv_10_79 rfl rfl rfl ⟨Nat.le_of_ble_eq_true rfl, Nat.le_of_ble_eq_true rfl, (Nat.le_of_ble_eq_true rfl)⟩
theorem c_X10_command  (h : mx_H) : mx_C mm_X10_command [.ref 0] h = mx_D (37, mm_X10_command, 0, [.ref 0, mx_junk, mx_junk, mx_junk, mx_junk, mx_junk], []) h := rfl
theorem e_X10_command_15 (v1 : Int32) (h : mx_H)  : mx_D (37, mm_X10_command, 15, [.ref 0, .int v1, mx_junk, mx_junk, mx_junk, mx_junk], []) h = (mx_C mm_X4_read [.ref 18] h).bind (fun o => mx_D (37, mm_X10_command, 22, [.ref 0, .int v1, mx_junk, mx_junk, mx_junk, mx_junk], o.1.toList ++ []) o.2) := by
  refine Eq.trans (q_aload_n dX10_command_15 rfl rfl) ?_
  refine Eq.trans (q_getf dX10_command_16 mx_fld_10_35 (gf_0_3 _)) ?_
  exact q_call0 (as := []) (rest := []) dX10_command_19 mx_inv_10_82 rfl rfl rfl ⟨Nat.le_of_ble_eq_true rfl, Nat.le_of_ble_eq_true rfl, (Nat.le_of_ble_eq_true rfl)⟩
theorem e_X10_command_22 (v1 : Int32) (s0 : Option Nat) (h : mx_H)  : mx_D (37, mm_X10_command, 22, [.ref 0, .int v1, mx_junk, mx_junk, mx_junk, mx_junk], [mx_rf s0]) h = (mx_C mm_X8_start [.ref 1, .int (h.1 18 4)] h).bind (fun o => mx_D (37, mm_X10_command, 37, [.ref 0, .int v1, mx_rf s0, mx_junk, mx_junk, mx_junk], o.1.toList ++ []) o.2) := by
  refine Eq.trans (q_astore_n (L' := [.ref 0, .int v1, mx_rf s0, mx_junk, mx_junk, mx_junk]) dX10_command_22 (mx_ar_rf _) (Nat.le_of_ble_eq_true rfl) rfl) ?_
  refine Eq.trans (q_aload_n dX10_command_23 rfl rfl) ?_
  refine Eq.trans (q_getf dX10_command_24 mx_fld_10_12 (gf_0_0 _)) ?_
  refine Eq.trans (q_aload_n dX10_command_27 rfl rfl) ?_
  refine Eq.trans (q_getf dX10_command_28 mx_fld_10_35 (gf_0_3 _)) ?_
  refine Eq.trans (q_getf dX10_command_31 mx_fld_10_86 (gf_18_4 _)) ?_
  exact q_call0 (as := [.int (h.1 18 4)]) (rest := []) dX10_command_34 mx_inv_10_89 rfl rfl rfl ⟨Nat.le_of_ble_eq_true rfl, Nat.le_of_ble_eq_true rfl, (Nat.le_of_ble_eq_true rfl)⟩
theorem e_X10_command_37 (v1 : Int32) (v2 : Option Nat) (s0 : Int32) (h : mx_H)  : mx_D (37, mm_X10_command, 37, [.ref 0, .int v1, mx_rf v2, mx_junk, mx_junk, mx_junk], [.int s0]) h = (mx_C mm_X8_clear [.ref 1] h).bind (fun o => mx_D (37, mm_X10_command, 45, [.ref 0, .int v1, mx_rf v2, .int s0, mx_junk, mx_junk], o.1.toList ++ []) o.2) := by
  refine Eq.trans (q_istore_n (L' := [.ref 0, .int v1, mx_rf v2, .int s0, mx_junk, mx_junk]) dX10_command_37 (Nat.le_of_ble_eq_true rfl) (by cases v2 <;> exact rfl)) ?_
  refine Eq.trans (q_aload_n dX10_command_38 rfl rfl) ?_
  refine Eq.trans (q_getf dX10_command_39 mx_fld_10_12 (gf_0_0 _)) ?_
  exact q_call0 (as := []) (rest := []) dX10_command_42 mx_inv_10_93 rfl rfl rfl ⟨Nat.le_of_ble_eq_true rfl, Nat.le_of_ble_eq_true rfl, (Nat.le_of_ble_eq_true rfl)⟩
theorem e_X10_command_45 (v1 : Int32) (v2 : Option Nat) (v3 : Int32) (h : mx_H)  : mx_D (37, mm_X10_command, 45, [.ref 0, .int v1, mx_rf v2, .int v3, mx_junk, mx_junk], []) h = if (mx_rf v2 : Value) = .null then (mx_C mm_X7_cut [.ref 6, .int v1] h).bind (fun o => mx_D (37, mm_X10_command, 57, [.ref 0, .int v1, mx_rf v2, .int v3, mx_junk, mx_junk], o.1.toList ++ []) o.2) else ((mx_C mm_X10_refusal [.ref 0, mx_rf v2] h).bind (fun o => mx_D (37, mm_X10_command, 66, [.ref 0, .int v1, mx_rf v2, .int v3, mx_junk, mx_junk], o.1.toList ++ []) o.2)) := by
  refine Eq.trans (q_aload_n dX10_command_45 rfl (mx_ar_rf _)) ?_
  refine Eq.trans (q_ifnonnull 61 dX10_command_46 (mx_ar_rf _) rfl) (q_ite2 ?_ ?_)
  · refine Eq.trans (q_aload_n dX10_command_49 rfl rfl) ?_
    refine Eq.trans (q_getf dX10_command_50 mx_fld_10_19 (gf_0_1 _)) ?_
    refine Eq.trans (q_iload_n dX10_command_53 rfl) ?_
    exact q_call0 (as := [.int v1]) (rest := []) dX10_command_54 mx_inv_10_96 rfl rfl rfl ⟨Nat.le_of_ble_eq_true rfl, Nat.le_of_ble_eq_true rfl, (Nat.le_of_ble_eq_true rfl)⟩
  · refine Eq.trans (q_aload_n dX10_command_61 rfl rfl) ?_
    refine Eq.trans (q_aload_n dX10_command_62 rfl (mx_ar_rf _)) ?_
    exact q_call0 (as := [mx_rf v2]) (rest := []) dX10_command_63 mx_inv_10_100 rfl rfl rfl ⟨Nat.le_of_ble_eq_true rfl, (by cases v2 <;> exact Nat.le_of_ble_eq_true rfl), (Nat.le_of_ble_eq_true rfl)⟩
theorem e_X10_command_57 (v1 : Int32) (v2 : Option Nat) (v3 : Int32) (h : mx_H)  : mx_D (37, mm_X10_command, 57, [.ref 0, .int v1, mx_rf v2, .int v3, mx_junk, mx_junk], []) h = some (some (.int (((-1)) - v3)), h) := by
  refine Eq.trans (q_iconst (x := (-1)) dX10_command_57 rfl) ?_
  refine Eq.trans (q_iload_n dX10_command_58 rfl) ?_
  refine Eq.trans (q_isub dX10_command_59) ?_
  exact q_retI dX10_command_60 rfl
theorem e_X10_command_66 (v1 : Int32) (v2 : Option Nat) (v3 : Int32) (s0 : Int32) (h : mx_H)  : mx_D (37, mm_X10_command, 66, [.ref 0, .int v1, mx_rf v2, .int v3, mx_junk, mx_junk], [.int s0]) h = if s0 = 0 then (mx_C mm_X10_perform [.ref 0, mx_rf v2] ((mx_u h.1 0 8 0), h.2.1, h.2.2)).bind (fun o => mx_D (37, mm_X10_command, 94, [.ref 0, .int v1, mx_rf v2, .int v3, .int s0, mx_junk], o.1.toList ++ []) o.2) else ((mx_C mm_X7_cut [.ref 6, .int v1] h).bind (fun o => mx_D (37, mm_X10_command, 81, [.ref 0, .int v1, mx_rf v2, .int v3, .int s0, mx_junk], o.1.toList ++ []) o.2)) := by
  refine Eq.trans (q_istore (L' := [.ref 0, .int v1, mx_rf v2, .int v3, .int s0, mx_junk]) dX10_command_66 (Nat.le_of_ble_eq_true rfl) rfl) ?_
  refine Eq.trans (q_iload dX10_command_68 rfl) ?_
  refine Eq.trans (q_if_eq 84 dX10_command_70 rfl) (q_ite2 ?_ ?_)
  · refine Eq.trans (q_aload_n dX10_command_84 rfl rfl) ?_
    refine Eq.trans (q_iconst (x := 0) dX10_command_85 rfl) ?_
    refine Eq.trans (q_putf dX10_command_86 mx_fld_10_68 (pf_0_8 _ _)) ?_
    refine Eq.trans (q_aload_n dX10_command_89 rfl rfl) ?_
    refine Eq.trans (q_aload_n dX10_command_90 rfl (mx_ar_rf _)) ?_
    exact q_call0 (as := [mx_rf v2]) (rest := []) dX10_command_91 mx_inv_10_104 rfl rfl rfl ⟨Nat.le_of_ble_eq_true rfl, (by cases v2 <;> exact Nat.le_of_ble_eq_true rfl), (Nat.le_of_ble_eq_true rfl)⟩
  · refine Eq.trans (q_aload_n dX10_command_73 rfl rfl) ?_
    refine Eq.trans (q_getf dX10_command_74 mx_fld_10_19 (gf_0_1 _)) ?_
    refine Eq.trans (q_iload_n dX10_command_77 rfl) ?_
    exact q_call0 (as := [.int v1]) (rest := []) dX10_command_78 mx_inv_10_96 rfl rfl rfl ⟨Nat.le_of_ble_eq_true rfl, Nat.le_of_ble_eq_true rfl, (Nat.le_of_ble_eq_true rfl)⟩
theorem e_X10_command_81 (v1 : Int32) (v2 : Option Nat) (v3 : Int32) (v4 : Int32) (h : mx_H)  : mx_D (37, mm_X10_command, 81, [.ref 0, .int v1, mx_rf v2, .int v3, .int v4, mx_junk], []) h = some (some (.int v4), h) := by
  refine Eq.trans (q_iload dX10_command_81 rfl) ?_
  exact q_retI dX10_command_83 rfl
theorem e_X10_command_94 (v1 : Int32) (v2 : Option Nat) (v3 : Int32) (v4 : Int32) (s0 : Int32) (h : mx_H)  : mx_D (37, mm_X10_command, 94, [.ref 0, .int v1, mx_rf v2, .int v3, .int v4, mx_junk], [.int s0]) h = (mx_C mm_X1_grow [.ref 28] h).bind (fun o => mx_D (37, mm_X10_command, 103, [.ref 0, .int v1, mx_rf v2, .int v3, .int v4, .int s0], o.1.toList ++ []) o.2) := by
  refine Eq.trans (q_istore (L' := [.ref 0, .int v1, mx_rf v2, .int v3, .int v4, .int s0]) dX10_command_94 (Nat.le_of_ble_eq_true rfl) rfl) ?_
  refine Eq.trans (q_aload_n dX10_command_96 rfl rfl) ?_
  refine Eq.trans (q_getf dX10_command_97 mx_fld_10_51 (gf_0_5 _)) ?_
  exact q_call0 (as := []) (rest := []) dX10_command_100 mx_inv_10_107 rfl rfl rfl ⟨Nat.le_of_ble_eq_true rfl, Nat.le_of_ble_eq_true rfl, (Nat.le_of_ble_eq_true rfl)⟩
theorem e_X10_command_103 (v1 : Int32) (v2 : Option Nat) (v3 : Int32) (v4 : Int32) (v5 : Int32) (h : mx_H)  : mx_D (37, mm_X10_command, 103, [.ref 0, .int v1, mx_rf v2, .int v3, .int v4, .int v5], []) h = some (some (.int v5), h) := by
  refine Eq.trans (q_iload dX10_command_103 rfl) ?_
  exact q_retI dX10_command_105 rfl
theorem e_X10_check_0  (h : mx_H)  : mx_D (16, mm_X10_check, 0, [.ref 0, mx_junk], []) h = if (h.1 0 8) = 0 then (mx_C mm_X10_gatherRoots [.ref 0] h).bind (fun o => mx_D (16, mm_X10_check, 23, [.ref 0, .int ((1 <<< ((h.1 11 5) &&& 31)) - 1)], o.1.toList ++ []) o.2) else (mx_D (16, mm_X10_check, 75, [.ref 0, mx_junk], []) h) := by
  refine Eq.trans (q_aload_n dX10_check_0 rfl rfl) ?_
  refine Eq.trans (q_getf dX10_check_1 mx_fld_10_68 (gf_0_8 _)) ?_
  refine Eq.trans (q_if_ne 75 dX10_check_4 rfl) (q_ite2 ?_ ?_)
  · refine Eq.trans (q_iconst (x := 1) dX10_check_7 rfl) ?_
    refine Eq.trans (q_aload_n dX10_check_8 rfl rfl) ?_
    refine Eq.trans (q_getf dX10_check_9 mx_fld_10_26 (gf_0_2 _)) ?_
    refine Eq.trans (q_getf dX10_check_12 mx_fld_10_110 (gf_11_5 _)) ?_
    refine Eq.trans (q_ishl dX10_check_15) ?_
    refine Eq.trans (q_iconst (x := 1) dX10_check_16 rfl) ?_
    refine Eq.trans (q_isub dX10_check_17) ?_
    refine Eq.trans (q_istore_n (L' := [.ref 0, .int ((1 <<< ((h.1 11 5) &&& 31)) - 1)]) dX10_check_18 (Nat.le_of_ble_eq_true rfl) rfl) ?_
    refine Eq.trans (q_aload_n dX10_check_19 rfl rfl) ?_
    exact q_call0 (as := []) (rest := []) dX10_check_20 mx_inv_10_113 rfl rfl rfl ⟨Nat.le_of_ble_eq_true rfl, Nat.le_of_ble_eq_true rfl, (Nat.le_of_ble_eq_true rfl)⟩
  · rfl
theorem c_X10_check  (h : mx_H) : mx_C mm_X10_check [.ref 0] h = mx_D (16, mm_X10_check, 0, [.ref 0, mx_junk], []) h := rfl
theorem e_X10_check_23 (v1 : Int32) (h : mx_H)  : mx_D (16, mm_X10_check, 23, [.ref 0, .int v1], []) h = (mx_C mm_X10_orderInputs [.ref 0] h).bind (fun o => mx_D (16, mm_X10_check, 27, [.ref 0, .int v1], o.1.toList ++ []) o.2) := by
  refine Eq.trans (q_aload_n dX10_check_23 rfl rfl) ?_
  exact q_call0 (as := []) (rest := []) dX10_check_24 mx_inv_10_116 rfl rfl rfl ⟨Nat.le_of_ble_eq_true rfl, Nat.le_of_ble_eq_true rfl, (Nat.le_of_ble_eq_true rfl)⟩
theorem e_X10_check_27 (v1 : Int32) (h : mx_H)  : mx_D (16, mm_X10_check, 27, [.ref 0, .int v1], []) h = (mx_C mm_X6_canHold [.ref 33, .ref 46, .int v1] h).bind (fun o => mx_D (16, mm_X10_check, 39, [.ref 0, .int v1], o.1.toList ++ []) o.2) := by
  refine Eq.trans (q_aload_n dX10_check_27 rfl rfl) ?_
  refine Eq.trans (q_getf dX10_check_28 mx_fld_10_60 (gf_0_6 _)) ?_
  refine Eq.trans (q_aload_n dX10_check_31 rfl rfl) ?_
  refine Eq.trans (q_getf dX10_check_32 mx_fld_10_64 (gf_0_7 _)) ?_
  refine Eq.trans (q_iload_n dX10_check_35 rfl) ?_
  exact q_call0 (as := [.ref 46, .int v1]) (rest := []) dX10_check_36 mx_inv_10_119 rfl rfl rfl ⟨Nat.le_of_ble_eq_true rfl, Nat.le_of_ble_eq_true rfl, (Nat.le_of_ble_eq_true rfl)⟩
theorem e_X10_check_39 (v1 : Int32) (s0 : Int32) (h : mx_H)  : mx_D (16, mm_X10_check, 39, [.ref 0, .int v1], [.int s0]) h = if s0 = 0 then (mx_C mm_X10_coreOf [.ref 0, .int v1] ((mx_u h.1 0 8 2), h.2.1, h.2.2)).bind (fun o => mx_D (16, mm_X10_check, 72, [.ref 0, .int v1], o.1.toList ++ [.ref 0]) o.2) else ((mx_C mm_X6_inputs [.ref 33] ((mx_u h.1 0 8 1), h.2.1, h.2.2)).bind (fun o => mx_D (16, mm_X10_check, 55, [.ref 0, .int v1], o.1.toList ++ [.ref 0]) o.2)) := by
  refine Eq.trans (q_if_eq 61 dX10_check_39 rfl) (q_ite2 ?_ ?_)
  · refine Eq.trans (q_aload_n dX10_check_61 rfl rfl) ?_
    refine Eq.trans (q_iconst (x := 2) dX10_check_62 rfl) ?_
    refine Eq.trans (q_putf dX10_check_63 mx_fld_10_68 (pf_0_8 _ _)) ?_
    refine Eq.trans (q_aload_n dX10_check_66 rfl rfl) ?_
    refine Eq.trans (q_aload_n dX10_check_67 rfl rfl) ?_
    refine Eq.trans (q_iload_n dX10_check_68 rfl) ?_
    exact q_call0 (as := [.int v1]) (rest := [.ref 0]) dX10_check_69 mx_inv_10_130 rfl rfl rfl ⟨Nat.le_of_ble_eq_true rfl, Nat.le_of_ble_eq_true rfl, (Nat.le_of_ble_eq_true rfl)⟩
  · refine Eq.trans (q_aload_n dX10_check_42 rfl rfl) ?_
    refine Eq.trans (q_iconst (x := 1) dX10_check_43 rfl) ?_
    refine Eq.trans (q_putf dX10_check_44 mx_fld_10_68 (pf_0_8 _ _)) ?_
    refine Eq.trans (q_aload_n dX10_check_47 rfl rfl) ?_
    refine Eq.trans (q_aload_n dX10_check_48 rfl rfl) ?_
    refine Eq.trans (q_getf dX10_check_49 mx_fld_10_60 (gf_0_6 _)) ?_
    exact q_call0 (as := []) (rest := [.ref 0]) dX10_check_52 mx_inv_10_123 rfl rfl rfl ⟨Nat.le_of_ble_eq_true rfl, Nat.le_of_ble_eq_true rfl, (Nat.le_of_ble_eq_true rfl)⟩
theorem e_X10_check_55 (v1 : Int32) (s1 : Int32) (h : mx_H)  : mx_D (16, mm_X10_check, 55, [.ref 0, .int v1], [.int s1, .ref 0]) h = mx_D (16, mm_X10_check, 75, [.ref 0, .int v1], []) ((mx_u h.1 0 9 s1), h.2.1, h.2.2) := by
  refine Eq.trans (q_putf dX10_check_55 mx_fld_10_127 (pf_0_9 _ _)) ?_
  refine Eq.trans (q_goto 75 dX10_check_58 rfl) ?_
  rfl
theorem e_X10_check_72 (v1 : Int32) (s1 : Int32) (h : mx_H)  : mx_D (16, mm_X10_check, 72, [.ref 0, .int v1], [.int s1, .ref 0]) h = mx_D (16, mm_X10_check, 75, [.ref 0, .int v1], []) ((mx_u h.1 0 10 s1), h.2.1, h.2.2) := by
  refine Eq.trans (q_putf dX10_check_72 mx_fld_10_133 (pf_0_10 _ _)) ?_
  rfl
theorem e_X10_check_75 (v1 : Value) (h : mx_H)  : mx_D (16, mm_X10_check, 75, [.ref 0, v1], []) h = if (h.1 0 8) = 1 then mx_D (16, mm_X10_check, 88, [.ref 0, v1], [.int 1]) h else (mx_D (16, mm_X10_check, 88, [.ref 0, v1], [.int 0]) h) := by
  refine Eq.trans (q_aload_n dX10_check_75 rfl rfl) ?_
  refine Eq.trans (q_getf dX10_check_76 mx_fld_10_68 (gf_0_8 _)) ?_
  refine Eq.trans (q_iconst (x := 1) dX10_check_79 rfl) ?_
  refine Eq.trans (q_icmp_ne 87 dX10_check_80 rfl) (q_ite2 ?_ ?_)
  · refine Eq.trans (q_iconst (x := 1) dX10_check_83 rfl) ?_
    refine Eq.trans (q_goto 88 dX10_check_84 rfl) ?_
    rfl
  · refine Eq.trans (q_iconst (x := 0) dX10_check_87 rfl) ?_
    rfl
theorem e_X10_check_88 (v1 : Value) (s0 : Int32) (h : mx_H)  : mx_D (16, mm_X10_check, 88, [.ref 0, v1], [.int s0]) h = some (some (.int s0), h) := by
  exact q_retI dX10_check_88 rfl
theorem e_X10_value_0 (v1 : Int32) (h : mx_H)  : mx_D (3, mm_X10_value, 0, [.ref 0, .int v1, mx_junk, mx_junk], []) h = if (h.1 0 8) = 1 then (mx_C mm_X5_hasConstant [.ref 11, .int v1] h).bind (fun o => mx_D (3, mm_X10_value, 16, [.ref 0, .int v1, mx_junk, mx_junk], o.1.toList ++ []) o.2) else (mx_D (3, mm_X10_value, 19, [.ref 0, .int v1, mx_junk, mx_junk], []) h) := by
  refine Eq.trans (q_aload_n dX10_value_0 rfl rfl) ?_
  refine Eq.trans (q_getf dX10_value_1 mx_fld_10_68 (gf_0_8 _)) ?_
  refine Eq.trans (q_iconst (x := 1) dX10_value_4 rfl) ?_
  refine Eq.trans (q_icmp_ne 19 dX10_value_5 rfl) (q_ite2 ?_ ?_)
  · refine Eq.trans (q_aload_n dX10_value_8 rfl rfl) ?_
    refine Eq.trans (q_getf dX10_value_9 mx_fld_10_26 (gf_0_2 _)) ?_
    refine Eq.trans (q_iload_n dX10_value_12 rfl) ?_
    exact q_call0 (as := [.int v1]) (rest := []) dX10_value_13 mx_inv_10_136 rfl rfl rfl ⟨Nat.le_of_ble_eq_true rfl, Nat.le_of_ble_eq_true rfl, (Nat.le_of_ble_eq_true rfl)⟩
  · rfl
theorem c_X10_value (v1 : Int32) (h : mx_H) : mx_C mm_X10_value [.ref 0, .int v1] h = mx_D (3, mm_X10_value, 0, [.ref 0, .int v1, mx_junk, mx_junk], []) h := rfl
theorem e_X10_value_16 (v1 : Int32) (s0 : Int32) (h : mx_H)  : mx_D (3, mm_X10_value, 16, [.ref 0, .int v1, mx_junk, mx_junk], [.int s0]) h = if s0 = 0 then mx_D (3, mm_X10_value, 19, [.ref 0, .int v1, mx_junk, mx_junk], []) h else (if mx_in v1 8 = true then (mx_C mm_X7_sortOf [.ref 6, .int (h.1 13 v1.toNatClampNeg)] h).bind (fun o => mx_D (3, mm_X10_value, 39, [.ref 0, .int v1, .int (h.1 13 v1.toNatClampNeg), mx_junk], o.1.toList ++ []) o.2) else none) := by
  refine Eq.trans (q_if_ne 21 dX10_value_16 rfl) (q_ite2 ?_ ?_)
  · rfl
  · refine Eq.trans (q_aload_n dX10_value_21 rfl rfl) ?_
    refine Eq.trans (q_getf dX10_value_22 mx_fld_10_26 (gf_0_2 _)) ?_
    refine Eq.trans (q_getf dX10_value_25 mx_fld_10_140 (gf_11_1 _)) ?_
    refine Eq.trans (q_iload_n dX10_value_28 rfl) ?_
    refine Eq.trans (q_ld (w := 0) (by decide) dX10_value_29 (al_13 _ _)) (q_ite ?_)
    refine Eq.trans (q_istore_n (L' := [.ref 0, .int v1, .int (h.1 13 v1.toNatClampNeg), mx_junk]) dX10_value_30 (Nat.le_of_ble_eq_true rfl) rfl) ?_
    refine Eq.trans (q_aload_n dX10_value_31 rfl rfl) ?_
    refine Eq.trans (q_getf dX10_value_32 mx_fld_10_19 (gf_0_1 _)) ?_
    refine Eq.trans (q_iload_n dX10_value_35 rfl) ?_
    exact q_call0 (as := [.int (h.1 13 v1.toNatClampNeg)]) (rest := []) dX10_value_36 mx_inv_10_143 rfl rfl rfl ⟨Nat.le_of_ble_eq_true rfl, Nat.le_of_ble_eq_true rfl, (Nat.le_of_ble_eq_true rfl)⟩
theorem e_X10_value_19 (v1 : Int32) (h : mx_H)  : mx_D (3, mm_X10_value, 19, [.ref 0, .int v1, mx_junk, mx_junk], []) h = some (some (.int ((-1))), h) := by
  refine Eq.trans (q_iconst (x := (-1)) dX10_value_19 rfl) ?_
  exact q_retI dX10_value_20 rfl
theorem e_X10_value_39 (v1 : Int32) (v2 : Int32) (s0 : Int32) (h : mx_H)  : mx_D (3, mm_X10_value, 39, [.ref 0, .int v1, .int v2, mx_junk], [.int s0]) h = (mx_C mm_X10_bitsOf [.int s0] h).bind (fun o => mx_D (3, mm_X10_value, 42, [.ref 0, .int v1, .int v2, mx_junk], o.1.toList ++ []) o.2) := by
  exact q_call1 (as := [.int s0]) (rest := []) dX10_value_39 mx_inv_10_146 rfl rfl ⟨Nat.le_of_ble_eq_true rfl, Nat.le_of_ble_eq_true rfl, (Nat.le_of_ble_eq_true rfl)⟩
theorem e_X10_value_42 (v1 : Int32) (v2 : Int32) (s0 : Int32) (h : mx_H)  : mx_D (3, mm_X10_value, 42, [.ref 0, .int v1, .int v2, mx_junk], [.int s0]) h = (mx_C mm_X7_numberOf [.ref 6, .int v2, .int 0] h).bind (fun o => mx_D (3, mm_X10_value, 56, [.ref 0, .int v1, .int v2, .int s0], o.1.toList ++ [.int (h.1 0 9)]) o.2) := by
  refine Eq.trans (q_istore_n (L' := [.ref 0, .int v1, .int v2, .int s0]) dX10_value_42 (Nat.le_of_ble_eq_true rfl) rfl) ?_
  refine Eq.trans (q_aload_n dX10_value_43 rfl rfl) ?_
  refine Eq.trans (q_getf dX10_value_44 mx_fld_10_127 (gf_0_9 _)) ?_
  refine Eq.trans (q_aload_n dX10_value_47 rfl rfl) ?_
  refine Eq.trans (q_getf dX10_value_48 mx_fld_10_19 (gf_0_1 _)) ?_
  refine Eq.trans (q_iload_n dX10_value_51 rfl) ?_
  refine Eq.trans (q_iconst (x := 0) dX10_value_52 rfl) ?_
  exact q_call0 (as := [.int v2, .int 0]) (rest := [.int (h.1 0 9)]) dX10_value_53 mx_inv_10_149 rfl rfl rfl ⟨Nat.le_of_ble_eq_true rfl, Nat.le_of_ble_eq_true rfl, (Nat.le_of_ble_eq_true rfl)⟩
theorem e_X10_value_56 (v1 : Int32) (v2 : Int32) (v3 : Int32) (s0 : Int32) (s1 : Int32) (h : mx_H)  : mx_D (3, mm_X10_value, 56, [.ref 0, .int v1, .int v2, .int v3], [.int s1, .int s0]) h = some (some (.int ((s0 >>> (s1 &&& 31)) &&& ((1 <<< (v3 &&& 31)) - 1))), h) := by
  refine Eq.trans (q_ishr dX10_value_56) ?_
  refine Eq.trans (q_iconst (x := 1) dX10_value_57 rfl) ?_
  refine Eq.trans (q_iload_n dX10_value_58 rfl) ?_
  refine Eq.trans (q_ishl dX10_value_59) ?_
  refine Eq.trans (q_iconst (x := 1) dX10_value_60 rfl) ?_
  refine Eq.trans (q_isub dX10_value_61) ?_
  refine Eq.trans (q_iand dX10_value_62) ?_
  exact q_retI dX10_value_63 rfl
theorem e_X10_core_0 (v1 : Int32) (h : mx_H)  : mx_D (2, mm_X10_core, 0, [.ref 0, .int v1], []) h = if (h.1 0 8) = 2 then (mx_C mm_X5_hasAssertion [.ref 11, .int v1] h).bind (fun o => mx_D (2, mm_X10_core, 16, [.ref 0, .int v1], o.1.toList ++ []) o.2) else (mx_D (2, mm_X10_core, 35, [.ref 0, .int v1], []) h) := by
  refine Eq.trans (q_aload_n dX10_core_0 rfl rfl) ?_
  refine Eq.trans (q_getf dX10_core_1 mx_fld_10_68 (gf_0_8 _)) ?_
  refine Eq.trans (q_iconst (x := 2) dX10_core_4 rfl) ?_
  refine Eq.trans (q_icmp_ne 35 dX10_core_5 rfl) (q_ite2 ?_ ?_)
  · refine Eq.trans (q_aload_n dX10_core_8 rfl rfl) ?_
    refine Eq.trans (q_getf dX10_core_9 mx_fld_10_26 (gf_0_2 _)) ?_
    refine Eq.trans (q_iload_n dX10_core_12 rfl) ?_
    exact q_call0 (as := [.int v1]) (rest := []) dX10_core_13 mx_inv_10_153 rfl rfl rfl ⟨Nat.le_of_ble_eq_true rfl, Nat.le_of_ble_eq_true rfl, (Nat.le_of_ble_eq_true rfl)⟩
  · rfl
theorem c_X10_core (v1 : Int32) (h : mx_H) : mx_C mm_X10_core [.ref 0, .int v1] h = mx_D (2, mm_X10_core, 0, [.ref 0, .int v1], []) h := rfl
theorem e_X10_core_16 (v1 : Int32) (s0 : Int32) (h : mx_H)  : mx_D (2, mm_X10_core, 16, [.ref 0, .int v1], [.int s0]) h = if s0 = 0 then mx_D (2, mm_X10_core, 35, [.ref 0, .int v1], []) h else (if (((h.1 0 10) >>> (v1 &&& 31)) &&& 1) = 1 then mx_D (2, mm_X10_core, 36, [.ref 0, .int v1], [.int 1]) h else (mx_D (2, mm_X10_core, 35, [.ref 0, .int v1], []) h)) := by
  refine Eq.trans (q_if_eq 35 dX10_core_16 rfl) (q_ite2 ?_ ?_)
  · rfl
  · refine Eq.trans (q_aload_n dX10_core_19 rfl rfl) ?_
    refine Eq.trans (q_getf dX10_core_20 mx_fld_10_133 (gf_0_10 _)) ?_
    refine Eq.trans (q_iload_n dX10_core_23 rfl) ?_
    refine Eq.trans (q_ishr dX10_core_24) ?_
    refine Eq.trans (q_iconst (x := 1) dX10_core_25 rfl) ?_
    refine Eq.trans (q_iand dX10_core_26) ?_
    refine Eq.trans (q_iconst (x := 1) dX10_core_27 rfl) ?_
    refine Eq.trans (q_icmp_ne 35 dX10_core_28 rfl) (q_ite2 ?_ ?_)
    · refine Eq.trans (q_iconst (x := 1) dX10_core_31 rfl) ?_
      refine Eq.trans (q_goto 36 dX10_core_32 rfl) ?_
      rfl
    · rfl
theorem e_X10_core_35 (v1 : Int32) (h : mx_H)  : mx_D (2, mm_X10_core, 35, [.ref 0, .int v1], []) h = mx_D (2, mm_X10_core, 36, [.ref 0, .int v1], [.int 0]) h := by
  refine Eq.trans (q_iconst (x := 0) dX10_core_35 rfl) ?_
  rfl
theorem e_X10_core_36 (v1 : Int32) (s0 : Int32) (h : mx_H)  : mx_D (2, mm_X10_core, 36, [.ref 0, .int v1], [.int s0]) h = if narrow .boolean (.int s0) = .int s0 then some (some (.int s0), h) else none := by
  exact q_ret dX10_core_36 rfl
theorem e_X10_holds_0 (v1 : Int32) (v2 : Int32) (h : mx_H)  : mx_D (4, mm_X10_holds, 0, [.ref 0, .int v1, .int v2], []) h = (mx_C mm_X5_hasAssertion [.ref 11, .int v1] h).bind (fun o => mx_D (4, mm_X10_holds, 8, [.ref 0, .int v1, .int v2], o.1.toList ++ []) o.2) := by
  refine Eq.trans (q_aload_n dX10_holds_0 rfl rfl) ?_
  refine Eq.trans (q_getf dX10_holds_1 mx_fld_10_26 (gf_0_2 _)) ?_
  refine Eq.trans (q_iload_n dX10_holds_4 rfl) ?_
  exact q_call0 (as := [.int v1]) (rest := []) dX10_holds_5 mx_inv_10_153 rfl rfl rfl ⟨Nat.le_of_ble_eq_true rfl, Nat.le_of_ble_eq_true rfl, (Nat.le_of_ble_eq_true rfl)⟩
theorem c_X10_holds (v1 : Int32) (v2 : Int32) (h : mx_H) : mx_C mm_X10_holds [.ref 0, .int v1, .int v2] h = mx_D (4, mm_X10_holds, 0, [.ref 0, .int v1, .int v2], []) h := rfl
theorem e_X10_holds_8 (v1 : Int32) (v2 : Int32) (s0 : Int32) (h : mx_H)  : mx_D (4, mm_X10_holds, 8, [.ref 0, .int v1, .int v2], [.int s0]) h = if s0 = 0 then some (some (.int ((-1))), h) else (if mx_in v1 12 = true then (mx_C mm_X1_bitOf [.ref 28, .int (h.1 14 v1.toNatClampNeg), .int 0] h).bind (fun o => mx_D (4, mm_X10_holds, 34, [.ref 0, .int v1, .int v2], o.1.toList ++ [.ref 22]) o.2) else none) := by
  refine Eq.trans (q_if_ne 13 dX10_holds_8 rfl) (q_ite2 ?_ ?_)
  · refine Eq.trans (q_iconst (x := (-1)) dX10_holds_11 rfl) ?_
    exact q_retI dX10_holds_12 rfl
  · refine Eq.trans (q_aload_n dX10_holds_13 rfl rfl) ?_
    refine Eq.trans (q_getf dX10_holds_14 mx_fld_10_42 (gf_0_4 _)) ?_
    refine Eq.trans (q_aload_n dX10_holds_17 rfl rfl) ?_
    refine Eq.trans (q_getf dX10_holds_18 mx_fld_10_51 (gf_0_5 _)) ?_
    refine Eq.trans (q_aload_n dX10_holds_21 rfl rfl) ?_
    refine Eq.trans (q_getf dX10_holds_22 mx_fld_10_26 (gf_0_2 _)) ?_
    refine Eq.trans (q_getf dX10_holds_25 mx_fld_10_156 (gf_11_4 _)) ?_
    refine Eq.trans (q_iload_n dX10_holds_28 rfl) ?_
    refine Eq.trans (q_ld (w := 0) (by decide) dX10_holds_29 (al_14 _ _)) (q_ite ?_)
    refine Eq.trans (q_iconst (x := 0) dX10_holds_30 rfl) ?_
    exact q_call0 (as := [.int (h.1 14 v1.toNatClampNeg), .int 0]) (rest := [.ref 22]) dX10_holds_31 mx_inv_10_159 rfl rfl rfl ⟨Nat.le_of_ble_eq_true rfl, Nat.le_of_ble_eq_true rfl, (Nat.le_of_ble_eq_true rfl)⟩
theorem e_X10_holds_34 (v1 : Int32) (v2 : Int32) (s1 : Int32) (h : mx_H)  : mx_D (4, mm_X10_holds, 34, [.ref 0, .int v1, .int v2], [.int s1, .ref 22]) h = (mx_C mm_X3_simulate [.ref 22, .int s1, .int v2] h).bind (fun o => mx_D (4, mm_X10_holds, 38, [.ref 0, .int v1, .int v2], o.1.toList ++ []) o.2) := by
  refine Eq.trans (q_iload_n dX10_holds_34 rfl) ?_
  exact q_call0 (as := [.int s1, .int v2]) (rest := []) dX10_holds_35 mx_inv_10_162 rfl rfl rfl ⟨Nat.le_of_ble_eq_true rfl, Nat.le_of_ble_eq_true rfl, (Nat.le_of_ble_eq_true rfl)⟩
theorem e_X10_holds_38 (v1 : Int32) (v2 : Int32) (s0 : Int32) (h : mx_H)  : mx_D (4, mm_X10_holds, 38, [.ref 0, .int v1, .int v2], [.int s0]) h = some (some (.int s0), h) := by
  exact q_retI dX10_holds_38 rfl
theorem e_X10_terms_0  (h : mx_H)  : mx_D (1, mm_X10_terms, 0, [.ref 0], []) h = some (some (.int (h.1 6 4)), h) := by
  refine Eq.trans (q_aload_n dX10_terms_0 rfl rfl) ?_
  refine Eq.trans (q_getf dX10_terms_1 mx_fld_10_19 (gf_0_1 _)) ?_
  refine Eq.trans (q_getf dX10_terms_4 mx_fld_10_76 (gf_6_4 _)) ?_
  exact q_retI dX10_terms_7 rfl
theorem c_X10_terms  (h : mx_H) : mx_C mm_X10_terms [.ref 0] h = mx_D (1, mm_X10_terms, 0, [.ref 0], []) h := rfl
theorem e_X10_count_0 (v1 : Int32) (h : mx_H)  : mx_D (1, mm_X10_count, 0, [.ref 0, .int v1], []) h = mx_D (1, mm_X10_count, 1, [.ref 0, .int v1], [.int v1]) h := by
  refine Eq.trans (q_iload_n dX10_count_0 rfl) ?_
  rfl
theorem c_X10_count (v1 : Int32) (h : mx_H) : mx_C mm_X10_count [.ref 0, .int v1] h = mx_D (1, mm_X10_count, 0, [.ref 0, .int v1], []) h := rfl
theorem e_X10_count_1_0 (v1 : Int32) (h : mx_H) : mx_D (1, mm_X10_count, 1, [.ref 0, .int v1], [.int 0]) h = mx_D (1, mm_X10_count, 28, [.ref 0, .int v1], []) h := q_tsw 28 dX10_count_1 rfl rfl
theorem e_X10_count_1_1 (v1 : Int32) (h : mx_H) : mx_D (1, mm_X10_count, 1, [.ref 0, .int v1], [.int 1]) h = mx_D (1, mm_X10_count, 36, [.ref 0, .int v1], []) h := q_tsw 36 dX10_count_1 rfl rfl
theorem e_X10_count_1_2 (v1 : Int32) (h : mx_H) : mx_D (1, mm_X10_count, 1, [.ref 0, .int v1], [.int 2]) h = mx_D (1, mm_X10_count, 44, [.ref 0, .int v1], []) h := q_tsw 44 dX10_count_1 rfl rfl
theorem e_X10_count_1_d (v1 : Int32) (x : Int32) (hx : x.toInt < 0 ∨ 2 < x.toInt) (h : mx_H) : mx_D (1, mm_X10_count, 1, [.ref 0, .int v1], [.int x]) h = mx_D (1, mm_X10_count, 52, [.ref 0, .int v1], []) h := q_tsw 52 dX10_count_1 (if_pos hx) rfl
theorem e_X10_count_28 (v1 : Int32) (h : mx_H)  : mx_D (1, mm_X10_count, 28, [.ref 0, .int v1], []) h = some (some (.int (h.1 11 2)), h) := by
  refine Eq.trans (q_aload_n dX10_count_28 rfl rfl) ?_
  refine Eq.trans (q_getf dX10_count_29 mx_fld_10_26 (gf_0_2 _)) ?_
  refine Eq.trans (q_getf dX10_count_32 mx_fld_10_165 (gf_11_2 _)) ?_
  exact q_retI dX10_count_35 rfl
theorem e_X10_count_36 (v1 : Int32) (h : mx_H)  : mx_D (1, mm_X10_count, 36, [.ref 0, .int v1], []) h = some (some (.int (h.1 11 5)), h) := by
  refine Eq.trans (q_aload_n dX10_count_36 rfl rfl) ?_
  refine Eq.trans (q_getf dX10_count_37 mx_fld_10_26 (gf_0_2 _)) ?_
  refine Eq.trans (q_getf dX10_count_40 mx_fld_10_110 (gf_11_5 _)) ?_
  exact q_retI dX10_count_43 rfl
theorem e_X10_count_44 (v1 : Int32) (h : mx_H)  : mx_D (1, mm_X10_count, 44, [.ref 0, .int v1], []) h = some (some (.int (h.1 11 9)), h) := by
  refine Eq.trans (q_aload_n dX10_count_44 rfl rfl) ?_
  refine Eq.trans (q_getf dX10_count_45 mx_fld_10_26 (gf_0_2 _)) ?_
  refine Eq.trans (q_getf dX10_count_48 mx_fld_10_168 (gf_11_9 _)) ?_
  exact q_retI dX10_count_51 rfl
theorem e_X10_count_52 (v1 : Int32) (h : mx_H)  : mx_D (1, mm_X10_count, 52, [.ref 0, .int v1], []) h = some (some (.int ((-1))), h) := by
  refine Eq.trans (q_iconst (x := (-1)) dX10_count_52 rfl) ?_
  exact q_retI dX10_count_53 rfl
theorem e_X10_refusal_0 (v1 : Nat) (hw_v1 : 1000 ≤ v1 ∧ v1 < 1042) (h : mx_H)  : mx_D (12, mm_X10_refusal, 0, [.ref 0, .ref v1, mx_junk, mx_junk], []) h = if mx_in (Int32.ofNat (v1 - 1000)) 42 = true then mx_D (12, mm_X10_refusal, 10, [.ref 0, .ref v1, mx_junk, .int 0], [.int (mx_swm ((Int32.ofNat (v1 - 1000)).toNatClampNeg))]) h else none := by
  refine Eq.trans (q_iconst (x := 0) dX10_refusal_0 rfl) ?_
  refine Eq.trans (q_istore_n (L' := [.ref 0, .ref v1, mx_junk, .int 0]) dX10_refusal_1 (Nat.le_of_ble_eq_true rfl) rfl) ?_
  refine Eq.trans (q_gets dX10_refusal_2 mx_sta_10_170) ?_
  refine Eq.trans (q_aload_n dX10_refusal_5 rfl rfl) ?_
  refine Eq.trans (q_ord dX10_refusal_6 mx_inv_10_175 hw_v1 (by simp)) ?_
  refine Eq.trans (q_ld (w := 0) (by decide) dX10_refusal_9 (mx_ld_2001)) (q_ite ?_)
  rfl
theorem c_X10_refusal (v1 : Option Nat) (h : mx_H) : mx_C mm_X10_refusal [.ref 0, mx_rf v1] h = mx_D (12, mm_X10_refusal, 0, [.ref 0, mx_rf v1, mx_junk, mx_junk], []) h := (by cases v1 <;> exact rfl)
theorem e_X10_refusal_10_1 (v1 : Option Nat) (v3 : Int32) (h : mx_H) : mx_D (12, mm_X10_refusal, 10, [.ref 0, mx_rf v1, mx_junk, .int v3], [.int 1]) h = mx_D (12, mm_X10_refusal, 36, [.ref 0, mx_rf v1, mx_junk, .int v3], []) h := q_tsw 36 dX10_refusal_10 rfl rfl
theorem e_X10_refusal_10_2 (v1 : Option Nat) (v3 : Int32) (h : mx_H) : mx_D (12, mm_X10_refusal, 10, [.ref 0, mx_rf v1, mx_junk, .int v3], [.int 2]) h = mx_D (12, mm_X10_refusal, 70, [.ref 0, mx_rf v1, mx_junk, .int v3], []) h := q_tsw 70 dX10_refusal_10 rfl rfl
theorem e_X10_refusal_10_3 (v1 : Option Nat) (v3 : Int32) (h : mx_H) : mx_D (12, mm_X10_refusal, 10, [.ref 0, mx_rf v1, mx_junk, .int v3], [.int 3]) h = mx_D (12, mm_X10_refusal, 91, [.ref 0, mx_rf v1, mx_junk, .int v3], []) h := q_tsw 91 dX10_refusal_10 rfl rfl
theorem e_X10_refusal_10_d (v1 : Option Nat) (v3 : Int32) (x : Int32) (hx : x.toInt < 1 ∨ 3 < x.toInt) (h : mx_H) : mx_D (12, mm_X10_refusal, 10, [.ref 0, mx_rf v1, mx_junk, .int v3], [.int x]) h = mx_D (12, mm_X10_refusal, 111, [.ref 0, mx_rf v1, mx_junk, .int v3], []) h := q_tsw 111 dX10_refusal_10 (if_pos hx) rfl
theorem e_X10_refusal_36 (v1 : Option Nat) (v3 : Int32) (h : mx_H)  : mx_D (12, mm_X10_refusal, 36, [.ref 0, mx_rf v1, mx_junk, .int v3], []) h = (mx_C mm_X10_bitsOf [.int (h.1 18 6)] h).bind (fun o => mx_D (12, mm_X10_refusal, 53, [.ref 0, mx_rf v1, mx_junk, .int v3], o.1.toList ++ [.int (h.1 11 3)]) o.2) := by
  refine Eq.trans (q_aload_n dX10_refusal_36 rfl rfl) ?_
  refine Eq.trans (q_getf dX10_refusal_37 mx_fld_10_26 (gf_0_2 _)) ?_
  refine Eq.trans (q_getf dX10_refusal_40 mx_fld_10_180 (gf_11_3 _)) ?_
  refine Eq.trans (q_aload_n dX10_refusal_43 rfl rfl) ?_
  refine Eq.trans (q_getf dX10_refusal_44 mx_fld_10_35 (gf_0_3 _)) ?_
  refine Eq.trans (q_getf dX10_refusal_47 mx_fld_10_183 (gf_18_6 _)) ?_
  exact q_call1 (as := [.int (h.1 18 6)]) (rest := [.int (h.1 11 3)]) dX10_refusal_50 mx_inv_10_146 rfl rfl ⟨Nat.le_of_ble_eq_true rfl, Nat.le_of_ble_eq_true rfl, (Nat.le_of_ble_eq_true rfl)⟩
theorem e_X10_refusal_53 (v1 : Option Nat) (v3 : Int32) (s0 : Int32) (s1 : Int32) (h : mx_H)  : mx_D (12, mm_X10_refusal, 53, [.ref 0, mx_rf v1, mx_junk, .int v3], [.int s1, .int s0]) h = if (s0 + s1) ≤ 8 then mx_D (12, mm_X10_refusal, 64, [.ref 0, mx_rf v1, mx_junk, .int v3], [.int 0]) h else (mx_D (12, mm_X10_refusal, 64, [.ref 0, mx_rf v1, mx_junk, .int v3], [.int 1]) h) := by
  refine Eq.trans (q_iadd dX10_refusal_53) ?_
  refine Eq.trans (q_bipush (x := 8) dX10_refusal_54 rfl) ?_
  refine Eq.trans (q_icmp_le 63 dX10_refusal_56 rfl) (q_ite2 ?_ ?_)
  · refine Eq.trans (q_iconst (x := 0) dX10_refusal_63 rfl) ?_
    rfl
  · refine Eq.trans (q_iconst (x := 1) dX10_refusal_59 rfl) ?_
    refine Eq.trans (q_goto 64 dX10_refusal_60 rfl) ?_
    rfl
theorem e_X10_refusal_64 (v1 : Option Nat) (v3 : Int32) (s0 : Int32) (h : mx_H)  : mx_D (12, mm_X10_refusal, 64, [.ref 0, mx_rf v1, mx_junk, .int v3], [.int s0]) h = mx_D (12, mm_X10_refusal, 127, [.ref 0, mx_rf v1, .int s0, .int 1], []) h := by
  refine Eq.trans (q_istore_n (L' := [.ref 0, mx_rf v1, .int s0, .int v3]) dX10_refusal_64 (Nat.le_of_ble_eq_true rfl) (by cases v1 <;> exact rfl)) ?_
  refine Eq.trans (q_iconst (x := 1) dX10_refusal_65 rfl) ?_
  refine Eq.trans (q_istore_n (L' := [.ref 0, mx_rf v1, .int s0, .int 1]) dX10_refusal_66 (Nat.le_of_ble_eq_true rfl) rfl) ?_
  refine Eq.trans (q_goto 127 dX10_refusal_67 rfl) ?_
  rfl
theorem e_X10_refusal_70 (v1 : Option Nat) (v3 : Int32) (h : mx_H)  : mx_D (12, mm_X10_refusal, 70, [.ref 0, mx_rf v1, mx_junk, .int v3], []) h = if (h.1 11 5) < 12 then mx_D (12, mm_X10_refusal, 87, [.ref 0, mx_rf v1, mx_junk, .int v3], [.int 0]) h else (mx_D (12, mm_X10_refusal, 87, [.ref 0, mx_rf v1, mx_junk, .int v3], [.int 1]) h) := by
  refine Eq.trans (q_aload_n dX10_refusal_70 rfl rfl) ?_
  refine Eq.trans (q_getf dX10_refusal_71 mx_fld_10_26 (gf_0_2 _)) ?_
  refine Eq.trans (q_getf dX10_refusal_74 mx_fld_10_110 (gf_11_5 _)) ?_
  refine Eq.trans (q_bipush (x := 12) dX10_refusal_77 rfl) ?_
  refine Eq.trans (q_icmp_lt 86 dX10_refusal_79 rfl) (q_ite2 ?_ ?_)
  · refine Eq.trans (q_iconst (x := 0) dX10_refusal_86 rfl) ?_
    rfl
  · refine Eq.trans (q_iconst (x := 1) dX10_refusal_82 rfl) ?_
    refine Eq.trans (q_goto 87 dX10_refusal_83 rfl) ?_
    rfl
theorem e_X10_refusal_87 (v1 : Option Nat) (v3 : Int32) (s0 : Int32) (h : mx_H)  : mx_D (12, mm_X10_refusal, 87, [.ref 0, mx_rf v1, mx_junk, .int v3], [.int s0]) h = mx_D (12, mm_X10_refusal, 127, [.ref 0, mx_rf v1, .int s0, .int v3], []) h := by
  refine Eq.trans (q_istore_n (L' := [.ref 0, mx_rf v1, .int s0, .int v3]) dX10_refusal_87 (Nat.le_of_ble_eq_true rfl) (by cases v1 <;> exact rfl)) ?_
  refine Eq.trans (q_goto 127 dX10_refusal_88 rfl) ?_
  rfl
theorem e_X10_refusal_91 (v1 : Option Nat) (v3 : Int32) (h : mx_H)  : mx_D (12, mm_X10_refusal, 91, [.ref 0, mx_rf v1, mx_junk, .int v3], []) h = if (h.1 11 9) < 4 then mx_D (12, mm_X10_refusal, 107, [.ref 0, mx_rf v1, mx_junk, .int v3], [.int 0]) h else (mx_D (12, mm_X10_refusal, 107, [.ref 0, mx_rf v1, mx_junk, .int v3], [.int 1]) h) := by
  refine Eq.trans (q_aload_n dX10_refusal_91 rfl rfl) ?_
  refine Eq.trans (q_getf dX10_refusal_92 mx_fld_10_26 (gf_0_2 _)) ?_
  refine Eq.trans (q_getf dX10_refusal_95 mx_fld_10_168 (gf_11_9 _)) ?_
  refine Eq.trans (q_iconst (x := 4) dX10_refusal_98 rfl) ?_
  refine Eq.trans (q_icmp_lt 106 dX10_refusal_99 rfl) (q_ite2 ?_ ?_)
  · refine Eq.trans (q_iconst (x := 0) dX10_refusal_106 rfl) ?_
    rfl
  · refine Eq.trans (q_iconst (x := 1) dX10_refusal_102 rfl) ?_
    refine Eq.trans (q_goto 107 dX10_refusal_103 rfl) ?_
    rfl
theorem e_X10_refusal_107 (v1 : Option Nat) (v3 : Int32) (s0 : Int32) (h : mx_H)  : mx_D (12, mm_X10_refusal, 107, [.ref 0, mx_rf v1, mx_junk, .int v3], [.int s0]) h = mx_D (12, mm_X10_refusal, 127, [.ref 0, mx_rf v1, .int s0, .int v3], []) h := by
  refine Eq.trans (q_istore_n (L' := [.ref 0, mx_rf v1, .int s0, .int v3]) dX10_refusal_107 (Nat.le_of_ble_eq_true rfl) (by cases v1 <;> exact rfl)) ?_
  refine Eq.trans (q_goto 127 dX10_refusal_108 rfl) ?_
  rfl
theorem e_X10_refusal_111 (v1 : Option Nat) (v3 : Int32) (h : mx_H)  : mx_D (12, mm_X10_refusal, 111, [.ref 0, mx_rf v1, mx_junk, .int v3], []) h = if (h.1 11 9) = 0 then mx_D (12, mm_X10_refusal, 126, [.ref 0, mx_rf v1, mx_junk, .int v3], [.int 1]) h else (mx_D (12, mm_X10_refusal, 126, [.ref 0, mx_rf v1, mx_junk, .int v3], [.int 0]) h) := by
  refine Eq.trans (q_aload_n dX10_refusal_111 rfl rfl) ?_
  refine Eq.trans (q_getf dX10_refusal_112 mx_fld_10_26 (gf_0_2 _)) ?_
  refine Eq.trans (q_getf dX10_refusal_115 mx_fld_10_168 (gf_11_9 _)) ?_
  refine Eq.trans (q_if_ne 125 dX10_refusal_118 rfl) (q_ite2 ?_ ?_)
  · refine Eq.trans (q_iconst (x := 1) dX10_refusal_121 rfl) ?_
    refine Eq.trans (q_goto 126 dX10_refusal_122 rfl) ?_
    rfl
  · refine Eq.trans (q_iconst (x := 0) dX10_refusal_125 rfl) ?_
    rfl
theorem e_X10_refusal_126 (v1 : Option Nat) (v3 : Int32) (s0 : Int32) (h : mx_H)  : mx_D (12, mm_X10_refusal, 126, [.ref 0, mx_rf v1, mx_junk, .int v3], [.int s0]) h = mx_D (12, mm_X10_refusal, 127, [.ref 0, mx_rf v1, .int s0, .int v3], []) h := by
  refine Eq.trans (q_istore_n (L' := [.ref 0, mx_rf v1, .int s0, .int v3]) dX10_refusal_126 (Nat.le_of_ble_eq_true rfl) (by cases v1 <;> exact rfl)) ?_
  rfl
theorem e_X10_refusal_127 (v1 : Option Nat) (v2 : Int32) (v3 : Int32) (h : mx_H)  : mx_D (12, mm_X10_refusal, 127, [.ref 0, mx_rf v1, .int v2, .int v3], []) h = if v2 = 0 then if 60 < ((h.1 6 4) + v3) then mx_D (12, mm_X10_refusal, 160, [.ref 0, mx_rf v1, .int v2, .int v3], []) h else ((mx_C mm_X7_heavyOnes [.ref 6] h).bind (fun o => mx_D (12, mm_X10_refusal, 156, [.ref 0, mx_rf v1, .int v2, .int v3], o.1.toList ++ []) o.2)) else (some (some (.int ((-1000))), h)) := by
  refine Eq.trans (q_iload_n dX10_refusal_127 rfl) ?_
  refine Eq.trans (q_if_eq 135 dX10_refusal_128 rfl) (q_ite2 ?_ ?_)
  · refine Eq.trans (q_aload_n dX10_refusal_135 rfl rfl) ?_
    refine Eq.trans (q_getf dX10_refusal_136 mx_fld_10_19 (gf_0_1 _)) ?_
    refine Eq.trans (q_getf dX10_refusal_139 mx_fld_10_76 (gf_6_4 _)) ?_
    refine Eq.trans (q_iload_n dX10_refusal_142 rfl) ?_
    refine Eq.trans (q_iadd dX10_refusal_143) ?_
    refine Eq.trans (q_bipush (x := 60) dX10_refusal_144 rfl) ?_
    refine Eq.trans (q_icmp_gt 160 dX10_refusal_146 rfl) (q_ite2 ?_ ?_)
    · rfl
    · refine Eq.trans (q_aload_n dX10_refusal_149 rfl rfl) ?_
      refine Eq.trans (q_getf dX10_refusal_150 mx_fld_10_19 (gf_0_1 _)) ?_
      exact q_call0 (as := []) (rest := []) dX10_refusal_153 mx_inv_10_186 rfl rfl rfl ⟨Nat.le_of_ble_eq_true rfl, Nat.le_of_ble_eq_true rfl, (Nat.le_of_ble_eq_true rfl)⟩
  · refine Eq.trans (q_sipush (x := (-1000)) dX10_refusal_131 rfl) ?_
    exact q_retI dX10_refusal_134 rfl
theorem e_X10_refusal_156 (v1 : Option Nat) (v2 : Int32) (v3 : Int32) (s0 : Int32) (h : mx_H)  : mx_D (12, mm_X10_refusal, 156, [.ref 0, mx_rf v1, .int v2, .int v3], [.int s0]) h = if s0 ≤ 2 then mx_D (12, mm_X10_refusal, 167, [.ref 0, mx_rf v1, .int v2, .int v3], [.int 0]) h else (mx_D (12, mm_X10_refusal, 160, [.ref 0, mx_rf v1, .int v2, .int v3], []) h) := by
  refine Eq.trans (q_iconst (x := 2) dX10_refusal_156 rfl) ?_
  refine Eq.trans (q_icmp_le 166 dX10_refusal_157 rfl) (q_ite2 ?_ ?_)
  · refine Eq.trans (q_iconst (x := 0) dX10_refusal_166 rfl) ?_
    rfl
  · rfl
theorem e_X10_refusal_160 (v1 : Option Nat) (v2 : Int32) (v3 : Int32) (h : mx_H)  : mx_D (12, mm_X10_refusal, 160, [.ref 0, mx_rf v1, .int v2, .int v3], []) h = mx_D (12, mm_X10_refusal, 167, [.ref 0, mx_rf v1, .int v2, .int v3], [.int ((-1001))]) h := by
  refine Eq.trans (q_sipush (x := (-1001)) dX10_refusal_160 rfl) ?_
  refine Eq.trans (q_goto 167 dX10_refusal_163 rfl) ?_
  rfl
