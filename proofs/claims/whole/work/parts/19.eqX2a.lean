theorem e_X2_clear_0 (v1 : Int32) (h : mx_H)  : mx_D (1, mm_X2_clear, 0, [.ref 34, .int v1, mx_junk], []) h = if mx_in 1 4517 = true then mx_D (1, mm_X2_clear, 14, [.ref 34, .int v1, .int 0], []) ((mx_u (mx_u h.1 34 2 0) 36 ((1 : Int32).toNatClampNeg) 0), h.2.1, h.2.2) else none := by
  refine Eq.trans (q_aload_n dX2_clear_0 rfl rfl) ?_
  refine Eq.trans (q_iconst (x := 0) dX2_clear_1 rfl) ?_
  refine Eq.trans (q_putf dX2_clear_2 mx_fld_2_24 (pf_34_2 _ _)) ?_
  refine Eq.trans (q_aload_n dX2_clear_5 rfl rfl) ?_
  refine Eq.trans (q_getf dX2_clear_6 mx_fld_2_15 (gf_34_1 _)) ?_
  refine Eq.trans (q_iconst (x := 1) dX2_clear_9 rfl) ?_
  refine Eq.trans (q_iconst (x := 0) dX2_clear_10 rfl) ?_
  refine Eq.trans (q_st (w := 0) (by decide) dX2_clear_11 (as_36 _ _ _)) (q_ite ?_)
  refine Eq.trans (q_iconst (x := 0) dX2_clear_12 rfl) ?_
  refine Eq.trans (q_istore_n (L' := [.ref 34, .int v1, .int 0]) dX2_clear_13 (Nat.le_of_ble_eq_true rfl) rfl) ?_
  rfl
theorem c_X2_clear (v1 : Int32) (h : mx_H) : mx_C mm_X2_clear [.ref 34, .int v1] h = mx_D (1, mm_X2_clear, 0, [.ref 34, .int v1, mx_junk], []) h := rfl
theorem e_X2_clear_14 (v1 : Int32) (v2 : Int32) (h : mx_H)  : mx_D (1, mm_X2_clear, 14, [.ref 34, .int v1, .int v2], []) h = if (2 * v1) ≤ v2 then mx_D (1, mm_X2_clear, 41, [.ref 34, .int v1, .int v2], []) h else (if 2130 ≤ v2 then mx_D (1, mm_X2_clear, 41, [.ref 34, .int v1, .int v2], []) h else (if mx_in v2 2130 = true then mx_D (1, mm_X2_clear, 14, [.ref 34, .int v1, .int (v2 + 1)], []) ((mx_u h.1 37 v2.toNatClampNeg ((-1))), h.2.1, h.2.2) else none)) := by
  refine Eq.trans (q_iload_n dX2_clear_14 rfl) ?_
  refine Eq.trans (q_iconst (x := 2) dX2_clear_15 rfl) ?_
  refine Eq.trans (q_iload_n dX2_clear_16 rfl) ?_
  refine Eq.trans (q_imul dX2_clear_17) ?_
  refine Eq.trans (q_icmp_ge 41 dX2_clear_18 rfl) (q_ite2 ?_ ?_)
  · rfl
  · refine Eq.trans (q_iload_n dX2_clear_21 rfl) ?_
    refine Eq.trans (q_sipush (x := 2130) dX2_clear_22 rfl) ?_
    refine Eq.trans (q_icmp_ge 41 dX2_clear_25 rfl) (q_ite2 ?_ ?_)
    · rfl
    · refine Eq.trans (q_aload_n dX2_clear_28 rfl rfl) ?_
      refine Eq.trans (q_getf dX2_clear_29 mx_fld_2_18 (gf_34_3 _)) ?_
      refine Eq.trans (q_iload_n dX2_clear_32 rfl) ?_
      refine Eq.trans (q_iconst (x := (-1)) dX2_clear_33 rfl) ?_
      refine Eq.trans (q_st (w := 0) (by decide) dX2_clear_34 (as_37 _ _ _)) (q_ite ?_)
      refine Eq.trans (q_iinc (x' := 1) (L' := [.ref 34, .int v1, .int (v2 + 1)]) dX2_clear_35 rfl rfl rfl) ?_
      refine Eq.trans (q_goto 14 dX2_clear_38 rfl) ?_
      rfl
theorem e_X2_clear_41 (v1 : Int32) (v2 : Int32) (h : mx_H)  : mx_D (1, mm_X2_clear, 41, [.ref 34, .int v1, .int v2], []) h = some (none, h) := by
  exact q_retV dX2_clear_41 rfl
theorem e_X2_tell_0 (v1 : Int32) (v2 : Int32) (v3 : Int32) (v4 : Int32) (v5 : Int32) (h : mx_H)  : mx_D (4, mm_X2_tell, 0, [.ref 34, .int v1, .int v2, .int v3, .int v4, .int v5], []) h = mx_D (4, mm_X2_tell, 1, [.ref 34, .int v1, .int v2, .int v3, .int v4, .int v5], [.int v1]) h := by
  refine Eq.trans (q_iload_n dX2_tell_0 rfl) ?_
  rfl
theorem c_X2_tell (v1 : Int32) (v2 : Int32) (v3 : Int32) (v4 : Int32) (v5 : Int32) (h : mx_H) : mx_C mm_X2_tell [.ref 34, .int v1, .int v2, .int v3, .int v4, .int v5] h = mx_D (4, mm_X2_tell, 0, [.ref 34, .int v1, .int v2, .int v3, .int v4, .int v5], []) h := rfl
theorem e_X2_tell_1_0 (v1 : Int32) (v2 : Int32) (v3 : Int32) (v4 : Int32) (v5 : Int32) (h : mx_H) : mx_D (4, mm_X2_tell, 1, [.ref 34, .int v1, .int v2, .int v3, .int v4, .int v5], [.int 0]) h = mx_D (4, mm_X2_tell, 28, [.ref 34, .int v1, .int v2, .int v3, .int v4, .int v5], []) h := q_lsw 28 dX2_tell_1 (by decide) rfl rfl
theorem e_X2_tell_1_1 (v1 : Int32) (v2 : Int32) (v3 : Int32) (v4 : Int32) (v5 : Int32) (h : mx_H) : mx_D (4, mm_X2_tell, 1, [.ref 34, .int v1, .int v2, .int v3, .int v4, .int v5], [.int 1]) h = mx_D (4, mm_X2_tell, 64, [.ref 34, .int v1, .int v2, .int v3, .int v4, .int v5], []) h := q_lsw 64 dX2_tell_1 (by decide) rfl rfl
theorem e_X2_tell_28 (v1 : Int32) (v2 : Int32) (v3 : Int32) (v4 : Int32) (v5 : Int32) (h : mx_H)  : mx_D (4, mm_X2_tell, 28, [.ref 34, .int v1, .int v2, .int v3, .int v4, .int v5], []) h = (mx_C mm_X2_add [.ref 34, .int (v2 ^^^ 1), .int v4, .int ((-1))] h).bind (fun o => mx_D (4, mm_X2_tell, 38, [.ref 34, .int v1, .int v2, .int v3, .int v4, .int v5], o.1.toList ++ []) o.2) := by
  refine Eq.trans (q_aload_n dX2_tell_28 rfl rfl) ?_
  refine Eq.trans (q_iload_n dX2_tell_29 rfl) ?_
  refine Eq.trans (q_iconst (x := 1) dX2_tell_30 rfl) ?_
  refine Eq.trans (q_ixor dX2_tell_31) ?_
  refine Eq.trans (q_iload dX2_tell_32 rfl) ?_
  refine Eq.trans (q_iconst (x := (-1)) dX2_tell_34 rfl) ?_
  exact q_call0 (as := [.int (v2 ^^^ 1), .int v4, .int ((-1))]) (rest := []) dX2_tell_35 mx_inv_2_28 rfl rfl rfl ⟨Nat.le_of_ble_eq_true rfl, Nat.le_of_ble_eq_true rfl, (Nat.le_of_ble_eq_true rfl)⟩
theorem e_X2_tell_38 (v1 : Int32) (v2 : Int32) (v3 : Int32) (v4 : Int32) (v5 : Int32) (h : mx_H)  : mx_D (4, mm_X2_tell, 38, [.ref 34, .int v1, .int v2, .int v3, .int v4, .int v5], []) h = (mx_C mm_X2_add [.ref 34, .int (v2 ^^^ 1), .int v5, .int ((-1))] h).bind (fun o => mx_D (4, mm_X2_tell, 48, [.ref 34, .int v1, .int v2, .int v3, .int v4, .int v5], o.1.toList ++ []) o.2) := by
  refine Eq.trans (q_aload_n dX2_tell_38 rfl rfl) ?_
  refine Eq.trans (q_iload_n dX2_tell_39 rfl) ?_
  refine Eq.trans (q_iconst (x := 1) dX2_tell_40 rfl) ?_
  refine Eq.trans (q_ixor dX2_tell_41) ?_
  refine Eq.trans (q_iload dX2_tell_42 rfl) ?_
  refine Eq.trans (q_iconst (x := (-1)) dX2_tell_44 rfl) ?_
  exact q_call0 (as := [.int (v2 ^^^ 1), .int v5, .int ((-1))]) (rest := []) dX2_tell_45 mx_inv_2_28 rfl rfl rfl ⟨Nat.le_of_ble_eq_true rfl, Nat.le_of_ble_eq_true rfl, (Nat.le_of_ble_eq_true rfl)⟩
theorem e_X2_tell_48 (v1 : Int32) (v2 : Int32) (v3 : Int32) (v4 : Int32) (v5 : Int32) (h : mx_H)  : mx_D (4, mm_X2_tell, 48, [.ref 34, .int v1, .int v2, .int v3, .int v4, .int v5], []) h = (mx_C mm_X2_add [.ref 34, .int v2, .int (v4 ^^^ 1), .int (v5 ^^^ 1)] h).bind (fun o => mx_D (4, mm_X2_tell, 61, [.ref 34, .int v1, .int v2, .int v3, .int v4, .int v5], o.1.toList ++ []) o.2) := by
  refine Eq.trans (q_aload_n dX2_tell_48 rfl rfl) ?_
  refine Eq.trans (q_iload_n dX2_tell_49 rfl) ?_
  refine Eq.trans (q_iload dX2_tell_50 rfl) ?_
  refine Eq.trans (q_iconst (x := 1) dX2_tell_52 rfl) ?_
  refine Eq.trans (q_ixor dX2_tell_53) ?_
  refine Eq.trans (q_iload dX2_tell_54 rfl) ?_
  refine Eq.trans (q_iconst (x := 1) dX2_tell_56 rfl) ?_
  refine Eq.trans (q_ixor dX2_tell_57) ?_
  exact q_call0 (as := [.int v2, .int (v4 ^^^ 1), .int (v5 ^^^ 1)]) (rest := []) dX2_tell_58 mx_inv_2_28 rfl rfl rfl ⟨Nat.le_of_ble_eq_true rfl, Nat.le_of_ble_eq_true rfl, (Nat.le_of_ble_eq_true rfl)⟩
theorem e_X2_tell_61 (v1 : Int32) (v2 : Int32) (v3 : Int32) (v4 : Int32) (v5 : Int32) (h : mx_H)  : mx_D (4, mm_X2_tell, 61, [.ref 34, .int v1, .int v2, .int v3, .int v4, .int v5], []) h = mx_D (4, mm_X2_tell, 159, [.ref 34, .int v1, .int v2, .int v3, .int v4, .int v5], []) h := by
  refine Eq.trans (q_goto 159 dX2_tell_61 rfl) ?_
  rfl
theorem e_X2_tell_64 (v1 : Int32) (v2 : Int32) (v3 : Int32) (v4 : Int32) (v5 : Int32) (h : mx_H)  : mx_D (4, mm_X2_tell, 64, [.ref 34, .int v1, .int v2, .int v3, .int v4, .int v5], []) h = (mx_C mm_X2_add [.ref 34, .int (v2 ^^^ 1), .int v4, .int v5] h).bind (fun o => mx_D (4, mm_X2_tell, 75, [.ref 34, .int v1, .int v2, .int v3, .int v4, .int v5], o.1.toList ++ []) o.2) := by
  refine Eq.trans (q_aload_n dX2_tell_64 rfl rfl) ?_
  refine Eq.trans (q_iload_n dX2_tell_65 rfl) ?_
  refine Eq.trans (q_iconst (x := 1) dX2_tell_66 rfl) ?_
  refine Eq.trans (q_ixor dX2_tell_67) ?_
  refine Eq.trans (q_iload dX2_tell_68 rfl) ?_
  refine Eq.trans (q_iload dX2_tell_70 rfl) ?_
  exact q_call0 (as := [.int (v2 ^^^ 1), .int v4, .int v5]) (rest := []) dX2_tell_72 mx_inv_2_28 rfl rfl rfl ⟨Nat.le_of_ble_eq_true rfl, Nat.le_of_ble_eq_true rfl, (Nat.le_of_ble_eq_true rfl)⟩
theorem e_X2_tell_75 (v1 : Int32) (v2 : Int32) (v3 : Int32) (v4 : Int32) (v5 : Int32) (h : mx_H)  : mx_D (4, mm_X2_tell, 75, [.ref 34, .int v1, .int v2, .int v3, .int v4, .int v5], []) h = (mx_C mm_X2_add [.ref 34, .int (v2 ^^^ 1), .int (v4 ^^^ 1), .int (v5 ^^^ 1)] h).bind (fun o => mx_D (4, mm_X2_tell, 90, [.ref 34, .int v1, .int v2, .int v3, .int v4, .int v5], o.1.toList ++ []) o.2) := by
  refine Eq.trans (q_aload_n dX2_tell_75 rfl rfl) ?_
  refine Eq.trans (q_iload_n dX2_tell_76 rfl) ?_
  refine Eq.trans (q_iconst (x := 1) dX2_tell_77 rfl) ?_
  refine Eq.trans (q_ixor dX2_tell_78) ?_
  refine Eq.trans (q_iload dX2_tell_79 rfl) ?_
  refine Eq.trans (q_iconst (x := 1) dX2_tell_81 rfl) ?_
  refine Eq.trans (q_ixor dX2_tell_82) ?_
  refine Eq.trans (q_iload dX2_tell_83 rfl) ?_
  refine Eq.trans (q_iconst (x := 1) dX2_tell_85 rfl) ?_
  refine Eq.trans (q_ixor dX2_tell_86) ?_
  exact q_call0 (as := [.int (v2 ^^^ 1), .int (v4 ^^^ 1), .int (v5 ^^^ 1)]) (rest := []) dX2_tell_87 mx_inv_2_28 rfl rfl rfl ⟨Nat.le_of_ble_eq_true rfl, Nat.le_of_ble_eq_true rfl, (Nat.le_of_ble_eq_true rfl)⟩
theorem e_X2_tell_90 (v1 : Int32) (v2 : Int32) (v3 : Int32) (v4 : Int32) (v5 : Int32) (h : mx_H)  : mx_D (4, mm_X2_tell, 90, [.ref 34, .int v1, .int v2, .int v3, .int v4, .int v5], []) h = (mx_C mm_X2_add [.ref 34, .int v2, .int (v4 ^^^ 1), .int v5] h).bind (fun o => mx_D (4, mm_X2_tell, 101, [.ref 34, .int v1, .int v2, .int v3, .int v4, .int v5], o.1.toList ++ []) o.2) := by
  refine Eq.trans (q_aload_n dX2_tell_90 rfl rfl) ?_
  refine Eq.trans (q_iload_n dX2_tell_91 rfl) ?_
  refine Eq.trans (q_iload dX2_tell_92 rfl) ?_
  refine Eq.trans (q_iconst (x := 1) dX2_tell_94 rfl) ?_
  refine Eq.trans (q_ixor dX2_tell_95) ?_
  refine Eq.trans (q_iload dX2_tell_96 rfl) ?_
  exact q_call0 (as := [.int v2, .int (v4 ^^^ 1), .int v5]) (rest := []) dX2_tell_98 mx_inv_2_28 rfl rfl rfl ⟨Nat.le_of_ble_eq_true rfl, Nat.le_of_ble_eq_true rfl, (Nat.le_of_ble_eq_true rfl)⟩
theorem e_X2_tell_101 (v1 : Int32) (v2 : Int32) (v3 : Int32) (v4 : Int32) (v5 : Int32) (h : mx_H)  : mx_D (4, mm_X2_tell, 101, [.ref 34, .int v1, .int v2, .int v3, .int v4, .int v5], []) h = (mx_C mm_X2_add [.ref 34, .int v2, .int v4, .int (v5 ^^^ 1)] h).bind (fun o => mx_D (4, mm_X2_tell, 112, [.ref 34, .int v1, .int v2, .int v3, .int v4, .int v5], o.1.toList ++ []) o.2) := by
  refine Eq.trans (q_aload_n dX2_tell_101 rfl rfl) ?_
  refine Eq.trans (q_iload_n dX2_tell_102 rfl) ?_
  refine Eq.trans (q_iload dX2_tell_103 rfl) ?_
  refine Eq.trans (q_iload dX2_tell_105 rfl) ?_
  refine Eq.trans (q_iconst (x := 1) dX2_tell_107 rfl) ?_
  refine Eq.trans (q_ixor dX2_tell_108) ?_
  exact q_call0 (as := [.int v2, .int v4, .int (v5 ^^^ 1)]) (rest := []) dX2_tell_109 mx_inv_2_28 rfl rfl rfl ⟨Nat.le_of_ble_eq_true rfl, Nat.le_of_ble_eq_true rfl, (Nat.le_of_ble_eq_true rfl)⟩
theorem e_X2_tell_112 (v1 : Int32) (v2 : Int32) (v3 : Int32) (v4 : Int32) (v5 : Int32) (h : mx_H)  : mx_D (4, mm_X2_tell, 112, [.ref 34, .int v1, .int v2, .int v3, .int v4, .int v5], []) h = mx_D (4, mm_X2_tell, 159, [.ref 34, .int v1, .int v2, .int v3, .int v4, .int v5], []) h := by
  refine Eq.trans (q_goto 159 dX2_tell_112 rfl) ?_
  rfl
theorem e_X2_tell_115 (v1 : Int32) (v2 : Int32) (v3 : Int32) (v4 : Int32) (v5 : Int32) (h : mx_H)  : mx_D (4, mm_X2_tell, 115, [.ref 34, .int v1, .int v2, .int v3, .int v4, .int v5], []) h = (mx_C mm_X2_add [.ref 34, .int (v2 ^^^ 1), .int (v3 ^^^ 1), .int v4] h).bind (fun o => mx_D (4, mm_X2_tell, 127, [.ref 34, .int v1, .int v2, .int v3, .int v4, .int v5], o.1.toList ++ []) o.2) := by
  refine Eq.trans (q_aload_n dX2_tell_115 rfl rfl) ?_
  refine Eq.trans (q_iload_n dX2_tell_116 rfl) ?_
  refine Eq.trans (q_iconst (x := 1) dX2_tell_117 rfl) ?_
  refine Eq.trans (q_ixor dX2_tell_118) ?_
  refine Eq.trans (q_iload_n dX2_tell_119 rfl) ?_
  refine Eq.trans (q_iconst (x := 1) dX2_tell_120 rfl) ?_
  refine Eq.trans (q_ixor dX2_tell_121) ?_
  refine Eq.trans (q_iload dX2_tell_122 rfl) ?_
  exact q_call0 (as := [.int (v2 ^^^ 1), .int (v3 ^^^ 1), .int v4]) (rest := []) dX2_tell_124 mx_inv_2_28 rfl rfl rfl ⟨Nat.le_of_ble_eq_true rfl, Nat.le_of_ble_eq_true rfl, (Nat.le_of_ble_eq_true rfl)⟩
theorem e_X2_tell_127 (v1 : Int32) (v2 : Int32) (v3 : Int32) (v4 : Int32) (v5 : Int32) (h : mx_H)  : mx_D (4, mm_X2_tell, 127, [.ref 34, .int v1, .int v2, .int v3, .int v4, .int v5], []) h = (mx_C mm_X2_add [.ref 34, .int v2, .int (v3 ^^^ 1), .int (v4 ^^^ 1)] h).bind (fun o => mx_D (4, mm_X2_tell, 139, [.ref 34, .int v1, .int v2, .int v3, .int v4, .int v5], o.1.toList ++ []) o.2) := by
  refine Eq.trans (q_aload_n dX2_tell_127 rfl rfl) ?_
  refine Eq.trans (q_iload_n dX2_tell_128 rfl) ?_
  refine Eq.trans (q_iload_n dX2_tell_129 rfl) ?_
  refine Eq.trans (q_iconst (x := 1) dX2_tell_130 rfl) ?_
  refine Eq.trans (q_ixor dX2_tell_131) ?_
  refine Eq.trans (q_iload dX2_tell_132 rfl) ?_
  refine Eq.trans (q_iconst (x := 1) dX2_tell_134 rfl) ?_
  refine Eq.trans (q_ixor dX2_tell_135) ?_
  exact q_call0 (as := [.int v2, .int (v3 ^^^ 1), .int (v4 ^^^ 1)]) (rest := []) dX2_tell_136 mx_inv_2_28 rfl rfl rfl ⟨Nat.le_of_ble_eq_true rfl, Nat.le_of_ble_eq_true rfl, (Nat.le_of_ble_eq_true rfl)⟩
theorem e_X2_tell_139 (v1 : Int32) (v2 : Int32) (v3 : Int32) (v4 : Int32) (v5 : Int32) (h : mx_H)  : mx_D (4, mm_X2_tell, 139, [.ref 34, .int v1, .int v2, .int v3, .int v4, .int v5], []) h = (mx_C mm_X2_add [.ref 34, .int (v2 ^^^ 1), .int v3, .int v5] h).bind (fun o => mx_D (4, mm_X2_tell, 149, [.ref 34, .int v1, .int v2, .int v3, .int v4, .int v5], o.1.toList ++ []) o.2) := by
  refine Eq.trans (q_aload_n dX2_tell_139 rfl rfl) ?_
  refine Eq.trans (q_iload_n dX2_tell_140 rfl) ?_
  refine Eq.trans (q_iconst (x := 1) dX2_tell_141 rfl) ?_
  refine Eq.trans (q_ixor dX2_tell_142) ?_
  refine Eq.trans (q_iload_n dX2_tell_143 rfl) ?_
  refine Eq.trans (q_iload dX2_tell_144 rfl) ?_
  exact q_call0 (as := [.int (v2 ^^^ 1), .int v3, .int v5]) (rest := []) dX2_tell_146 mx_inv_2_28 rfl rfl rfl ⟨Nat.le_of_ble_eq_true rfl, Nat.le_of_ble_eq_true rfl, (Nat.le_of_ble_eq_true rfl)⟩
theorem e_X2_tell_149 (v1 : Int32) (v2 : Int32) (v3 : Int32) (v4 : Int32) (v5 : Int32) (h : mx_H)  : mx_D (4, mm_X2_tell, 149, [.ref 34, .int v1, .int v2, .int v3, .int v4, .int v5], []) h = (mx_C mm_X2_add [.ref 34, .int v2, .int v3, .int (v5 ^^^ 1)] h).bind (fun o => mx_D (4, mm_X2_tell, 159, [.ref 34, .int v1, .int v2, .int v3, .int v4, .int v5], o.1.toList ++ []) o.2) := by
  refine Eq.trans (q_aload_n dX2_tell_149 rfl rfl) ?_
  refine Eq.trans (q_iload_n dX2_tell_150 rfl) ?_
  refine Eq.trans (q_iload_n dX2_tell_151 rfl) ?_
  refine Eq.trans (q_iload dX2_tell_152 rfl) ?_
  refine Eq.trans (q_iconst (x := 1) dX2_tell_154 rfl) ?_
  refine Eq.trans (q_ixor dX2_tell_155) ?_
  exact q_call0 (as := [.int v2, .int v3, .int (v5 ^^^ 1)]) (rest := []) dX2_tell_156 mx_inv_2_28 rfl rfl rfl ⟨Nat.le_of_ble_eq_true rfl, Nat.le_of_ble_eq_true rfl, (Nat.le_of_ble_eq_true rfl)⟩
theorem e_X2_tell_159 (v1 : Int32) (v2 : Int32) (v3 : Int32) (v4 : Int32) (v5 : Int32) (h : mx_H)  : mx_D (4, mm_X2_tell, 159, [.ref 34, .int v1, .int v2, .int v3, .int v4, .int v5], []) h = some (none, h) := by
  exact q_retV dX2_tell_159 rfl
theorem e_X2_add_0 (v1 : Int32) (v2 : Int32) (v3 : Int32) (h : mx_H)  : mx_D (3, mm_X2_add, 0, [.ref 34, .int v1, .int v2, .int v3], []) h = (mx_C mm_X2_gather [.ref 34, .int v1] h).bind (fun o => mx_D (3, mm_X2_add, 5, [.ref 34, .int v1, .int v2, .int v3], o.1.toList ++ []) o.2) := by
  refine Eq.trans (q_aload_n dX2_add_0 rfl rfl) ?_
  refine Eq.trans (q_iload_n dX2_add_1 rfl) ?_
  exact q_call0 (as := [.int v1]) (rest := []) dX2_add_2 mx_inv_2_32 rfl rfl rfl ⟨Nat.le_of_ble_eq_true rfl, Nat.le_of_ble_eq_true rfl, (Nat.le_of_ble_eq_true rfl)⟩
theorem c_X2_add (v1 : Int32) (v2 : Int32) (v3 : Int32) (h : mx_H) : mx_C mm_X2_add [.ref 34, .int v1, .int v2, .int v3] h = mx_D (3, mm_X2_add, 0, [.ref 34, .int v1, .int v2, .int v3], []) h := rfl
theorem e_X2_add_5 (v1 : Int32) (v2 : Int32) (v3 : Int32) (h : mx_H)  : mx_D (3, mm_X2_add, 5, [.ref 34, .int v1, .int v2, .int v3], []) h = (mx_C mm_X2_gather [.ref 34, .int v2] h).bind (fun o => mx_D (3, mm_X2_add, 10, [.ref 34, .int v1, .int v2, .int v3], o.1.toList ++ []) o.2) := by
  refine Eq.trans (q_aload_n dX2_add_5 rfl rfl) ?_
  refine Eq.trans (q_iload_n dX2_add_6 rfl) ?_
  exact q_call0 (as := [.int v2]) (rest := []) dX2_add_7 mx_inv_2_32 rfl rfl rfl ⟨Nat.le_of_ble_eq_true rfl, Nat.le_of_ble_eq_true rfl, (Nat.le_of_ble_eq_true rfl)⟩
theorem e_X2_add_10 (v1 : Int32) (v2 : Int32) (v3 : Int32) (h : mx_H)  : mx_D (3, mm_X2_add, 10, [.ref 34, .int v1, .int v2, .int v3], []) h = if v3 = ((-1)) then mx_D (3, mm_X2_add, 20, [.ref 34, .int v1, .int v2, .int v3], []) h else ((mx_C mm_X2_gather [.ref 34, .int v3] h).bind (fun o => mx_D (3, mm_X2_add, 20, [.ref 34, .int v1, .int v2, .int v3], o.1.toList ++ []) o.2)) := by
  refine Eq.trans (q_iload_n dX2_add_10 rfl) ?_
  refine Eq.trans (q_iconst (x := (-1)) dX2_add_11 rfl) ?_
  refine Eq.trans (q_icmp_eq 20 dX2_add_12 rfl) (q_ite2 ?_ ?_)
  · rfl
  · refine Eq.trans (q_aload_n dX2_add_15 rfl rfl) ?_
    refine Eq.trans (q_iload_n dX2_add_16 rfl) ?_
    exact q_call0 (as := [.int v3]) (rest := []) dX2_add_17 mx_inv_2_32 rfl rfl rfl ⟨Nat.le_of_ble_eq_true rfl, Nat.le_of_ble_eq_true rfl, (Nat.le_of_ble_eq_true rfl)⟩
theorem e_X2_add_20 (v1 : Int32) (v2 : Int32) (v3 : Int32) (h : mx_H)  : mx_D (3, mm_X2_add, 20, [.ref 34, .int v1, .int v2, .int v3], []) h = (mx_C mm_X2_finish [.ref 34] h).bind (fun o => mx_D (3, mm_X2_add, 24, [.ref 34, .int v1, .int v2, .int v3], o.1.toList ++ []) o.2) := by
  refine Eq.trans (q_aload_n dX2_add_20 rfl rfl) ?_
  exact q_call0 (as := []) (rest := []) dX2_add_21 mx_inv_2_36 rfl rfl rfl ⟨Nat.le_of_ble_eq_true rfl, Nat.le_of_ble_eq_true rfl, (Nat.le_of_ble_eq_true rfl)⟩
theorem e_X2_add_24 (v1 : Int32) (v2 : Int32) (v3 : Int32) (s0 : Int32) (h : mx_H)  : mx_D (3, mm_X2_add, 24, [.ref 34, .int v1, .int v2, .int v3], [.int s0]) h = some (none, h) := by
  refine Eq.trans (q_pop dX2_add_24 rfl) ?_
  exact q_retV dX2_add_25 rfl
theorem e_X2_gather_0 (v1 : Int32) (h : mx_H)  : mx_D (1, mm_X2_gather, 0, [.ref 34, .int v1], []) h = if 4516 ≤ (h.1 34 2) then mx_D (1, mm_X2_gather, 59, [.ref 34, .int v1], []) h else (if mx_in ((h.1 34 2) + 1) 4517 = true then if 14828 ≤ (h.1 36 (((h.1 34 2) + 1).toNatClampNeg)) then mx_D (1, mm_X2_gather, 59, [.ref 34, .int v1], []) h else (if mx_in ((h.1 34 2) + 1) 4517 = true then if mx_in (h.1 36 (((h.1 34 2) + 1).toNatClampNeg)) 14828 = true then if mx_in (((mx_u h.1 35 ((h.1 36 (((h.1 34 2) + 1).toNatClampNeg)).toNatClampNeg) v1) 34 2) + 1) 4517 = true then if mx_in (((mx_u h.1 35 ((h.1 36 (((h.1 34 2) + 1).toNatClampNeg)).toNatClampNeg) v1) 34 2) + 1) 4517 = true then mx_D (1, mm_X2_gather, 59, [.ref 34, .int v1], []) ((mx_u (mx_u h.1 35 ((h.1 36 (((h.1 34 2) + 1).toNatClampNeg)).toNatClampNeg) v1) 36 ((((mx_u h.1 35 ((h.1 36 (((h.1 34 2) + 1).toNatClampNeg)).toNatClampNeg) v1) 34 2) + 1).toNatClampNeg) (((mx_u h.1 35 ((h.1 36 (((h.1 34 2) + 1).toNatClampNeg)).toNatClampNeg) v1) 36 ((((mx_u h.1 35 ((h.1 36 (((h.1 34 2) + 1).toNatClampNeg)).toNatClampNeg) v1) 34 2) + 1).toNatClampNeg)) + 1)), h.2.1, h.2.2) else none else none else none else none) else none) := by
  refine Eq.trans (q_aload_n dX2_gather_0 rfl rfl) ?_
  refine Eq.trans (q_getf dX2_gather_1 mx_fld_2_24 (gf_34_2 _)) ?_
  refine Eq.trans (q_sipush (x := 4516) dX2_gather_4 rfl) ?_
  refine Eq.trans (q_icmp_ge 59 dX2_gather_7 rfl) (q_ite2 ?_ ?_)
  · rfl
  · refine Eq.trans (q_aload_n dX2_gather_10 rfl rfl) ?_
    refine Eq.trans (q_getf dX2_gather_11 mx_fld_2_15 (gf_34_1 _)) ?_
    refine Eq.trans (q_aload_n dX2_gather_14 rfl rfl) ?_
    refine Eq.trans (q_getf dX2_gather_15 mx_fld_2_24 (gf_34_2 _)) ?_
    refine Eq.trans (q_iconst (x := 1) dX2_gather_18 rfl) ?_
    refine Eq.trans (q_iadd dX2_gather_19) ?_
    refine Eq.trans (q_ld (w := 0) (by decide) dX2_gather_20 (al_36 _ _)) (q_ite ?_)
    refine Eq.trans (q_sipush (x := 14828) dX2_gather_21 rfl) ?_
    refine Eq.trans (q_icmp_ge 59 dX2_gather_24 rfl) (q_ite2 ?_ ?_)
    · rfl
    · refine Eq.trans (q_aload_n dX2_gather_27 rfl rfl) ?_
      refine Eq.trans (q_getf dX2_gather_28 mx_fld_2_11 (gf_34_0 _)) ?_
      refine Eq.trans (q_aload_n dX2_gather_31 rfl rfl) ?_
      refine Eq.trans (q_getf dX2_gather_32 mx_fld_2_15 (gf_34_1 _)) ?_
      refine Eq.trans (q_aload_n dX2_gather_35 rfl rfl) ?_
      refine Eq.trans (q_getf dX2_gather_36 mx_fld_2_24 (gf_34_2 _)) ?_
      refine Eq.trans (q_iconst (x := 1) dX2_gather_39 rfl) ?_
      refine Eq.trans (q_iadd dX2_gather_40) ?_
      refine Eq.trans (q_ld (w := 0) (by decide) dX2_gather_41 (al_36 _ _)) (q_ite ?_)
      refine Eq.trans (q_iload_n dX2_gather_42 rfl) ?_
      refine Eq.trans (q_st (w := 0) (by decide) dX2_gather_43 (as_35 _ _ _)) (q_ite ?_)
      refine Eq.trans (q_aload_n dX2_gather_44 rfl rfl) ?_
      refine Eq.trans (q_getf dX2_gather_45 mx_fld_2_15 (gf_34_1 _)) ?_
      refine Eq.trans (q_aload_n dX2_gather_48 rfl rfl) ?_
      refine Eq.trans (q_getf dX2_gather_49 mx_fld_2_24 (gf_34_2 _)) ?_
      refine Eq.trans (q_iconst (x := 1) dX2_gather_52 rfl) ?_
      refine Eq.trans (q_iadd dX2_gather_53) ?_
      refine Eq.trans (q_dup2 dX2_gather_54 rfl rfl) ?_
      refine Eq.trans (q_ld (w := 0) (by decide) dX2_gather_55 (al_36 _ _)) (q_ite ?_)
      refine Eq.trans (q_iconst (x := 1) dX2_gather_56 rfl) ?_
      refine Eq.trans (q_iadd dX2_gather_57) ?_
      refine Eq.trans (q_st (w := 0) (by decide) dX2_gather_58 (as_36 _ _ _)) (q_ite ?_)
      rfl
theorem c_X2_gather (v1 : Int32) (h : mx_H) : mx_C mm_X2_gather [.ref 34, .int v1] h = mx_D (1, mm_X2_gather, 0, [.ref 34, .int v1], []) h := rfl
theorem e_X2_gather_59 (v1 : Int32) (h : mx_H)  : mx_D (1, mm_X2_gather, 59, [.ref 34, .int v1], []) h = some (none, h) := by
  exact q_retV dX2_gather_59 rfl
theorem e_X2_finish_0  (h : mx_H)  : mx_D (2, mm_X2_finish, 0, [.ref 34, mx_junk], []) h = if 4516 ≤ (h.1 34 2) then mx_D (2, mm_X2_finish, 35, [.ref 34, mx_junk], []) h else (if mx_in ((h.1 34 2) + 1) 4517 = true then if mx_in (h.1 34 2) 4517 = true then if 2 ≤ ((h.1 36 (((h.1 34 2) + 1).toNatClampNeg)) - (h.1 36 ((h.1 34 2).toNatClampNeg))) then if 4516 ≤ ((mx_u h.1 34 2 ((h.1 34 2) + 1)) 34 2) then mx_D (2, mm_X2_finish, 82, [.ref 34, .int (h.1 34 2)], []) ((mx_u h.1 34 2 ((h.1 34 2) + 1)), h.2.1, h.2.2) else (if mx_in ((mx_u h.1 34 2 ((h.1 34 2) + 1)) 34 2) 4517 = true then if mx_in (((mx_u h.1 34 2 ((h.1 34 2) + 1)) 34 2) + 1) 4517 = true then mx_D (2, mm_X2_finish, 82, [.ref 34, .int (h.1 34 2)], []) ((mx_u (mx_u h.1 34 2 ((h.1 34 2) + 1)) 36 ((((mx_u h.1 34 2 ((h.1 34 2) + 1)) 34 2) + 1).toNatClampNeg) ((mx_u h.1 34 2 ((h.1 34 2) + 1)) 36 (((mx_u h.1 34 2 ((h.1 34 2) + 1)) 34 2).toNatClampNeg))), h.2.1, h.2.2) else none else none) else (mx_D (2, mm_X2_finish, 35, [.ref 34, mx_junk], []) h) else none else none) := by
  refine Eq.trans (q_aload_n dX2_finish_0 rfl rfl) ?_
  refine Eq.trans (q_getf dX2_finish_1 mx_fld_2_24 (gf_34_2 _)) ?_
  refine Eq.trans (q_sipush (x := 4516) dX2_finish_4 rfl) ?_
  refine Eq.trans (q_icmp_ge 35 dX2_finish_7 rfl) (q_ite2 ?_ ?_)
  · rfl
  · refine Eq.trans (q_aload_n dX2_finish_10 rfl rfl) ?_
    refine Eq.trans (q_getf dX2_finish_11 mx_fld_2_15 (gf_34_1 _)) ?_
    refine Eq.trans (q_aload_n dX2_finish_14 rfl rfl) ?_
    refine Eq.trans (q_getf dX2_finish_15 mx_fld_2_24 (gf_34_2 _)) ?_
    refine Eq.trans (q_iconst (x := 1) dX2_finish_18 rfl) ?_
    refine Eq.trans (q_iadd dX2_finish_19) ?_
    refine Eq.trans (q_ld (w := 0) (by decide) dX2_finish_20 (al_36 _ _)) (q_ite ?_)
    refine Eq.trans (q_aload_n dX2_finish_21 rfl rfl) ?_
    refine Eq.trans (q_getf dX2_finish_22 mx_fld_2_15 (gf_34_1 _)) ?_
    refine Eq.trans (q_aload_n dX2_finish_25 rfl rfl) ?_
    refine Eq.trans (q_getf dX2_finish_26 mx_fld_2_24 (gf_34_2 _)) ?_
    refine Eq.trans (q_ld (w := 0) (by decide) dX2_finish_29 (al_36 _ _)) (q_ite ?_)
    refine Eq.trans (q_isub dX2_finish_30) ?_
    refine Eq.trans (q_iconst (x := 2) dX2_finish_31 rfl) ?_
    refine Eq.trans (q_icmp_ge 37 dX2_finish_32 rfl) (q_ite2 ?_ ?_)
    · refine Eq.trans (q_aload_n dX2_finish_37 rfl rfl) ?_
      refine Eq.trans (q_getf dX2_finish_38 mx_fld_2_24 (gf_34_2 _)) ?_
      refine Eq.trans (q_istore_n (L' := [.ref 34, .int (h.1 34 2)]) dX2_finish_41 (Nat.le_of_ble_eq_true rfl) rfl) ?_
      refine Eq.trans (q_aload_n dX2_finish_42 rfl rfl) ?_
      refine Eq.trans (q_dup dX2_finish_43 rfl) ?_
      refine Eq.trans (q_getf dX2_finish_44 mx_fld_2_24 (gf_34_2 _)) ?_
      refine Eq.trans (q_iconst (x := 1) dX2_finish_47 rfl) ?_
      refine Eq.trans (q_iadd dX2_finish_48) ?_
      refine Eq.trans (q_putf dX2_finish_49 mx_fld_2_24 (pf_34_2 _ _)) ?_
      refine Eq.trans (q_aload_n dX2_finish_52 rfl rfl) ?_
      refine Eq.trans (q_getf dX2_finish_53 mx_fld_2_24 (gf_34_2 _)) ?_
      refine Eq.trans (q_sipush (x := 4516) dX2_finish_56 rfl) ?_
      refine Eq.trans (q_icmp_ge 82 dX2_finish_59 rfl) (q_ite2 ?_ ?_)
      · rfl
      · refine Eq.trans (q_aload_n dX2_finish_62 rfl rfl) ?_
        refine Eq.trans (q_getf dX2_finish_63 mx_fld_2_15 (gf_34_1 _)) ?_
        refine Eq.trans (q_aload_n dX2_finish_66 rfl rfl) ?_
        refine Eq.trans (q_getf dX2_finish_67 mx_fld_2_24 (gf_34_2 _)) ?_
        refine Eq.trans (q_iconst (x := 1) dX2_finish_70 rfl) ?_
        refine Eq.trans (q_iadd dX2_finish_71) ?_
        refine Eq.trans (q_aload_n dX2_finish_72 rfl rfl) ?_
        refine Eq.trans (q_getf dX2_finish_73 mx_fld_2_15 (gf_34_1 _)) ?_
        refine Eq.trans (q_aload_n dX2_finish_76 rfl rfl) ?_
        refine Eq.trans (q_getf dX2_finish_77 mx_fld_2_24 (gf_34_2 _)) ?_
        refine Eq.trans (q_ld (w := 0) (by decide) dX2_finish_80 (al_36 _ _)) (q_ite ?_)
        refine Eq.trans (q_st (w := 0) (by decide) dX2_finish_81 (as_36 _ _ _)) (q_ite ?_)
        rfl
    · rfl
theorem c_X2_finish  (h : mx_H) : mx_C mm_X2_finish [.ref 34] h = mx_D (2, mm_X2_finish, 0, [.ref 34, mx_junk], []) h := rfl
theorem e_X2_finish_35  (h : mx_H)  : mx_D (2, mm_X2_finish, 35, [.ref 34, mx_junk], []) h = some (some (.int ((-1))), h) := by
  refine Eq.trans (q_iconst (x := (-1)) dX2_finish_35 rfl) ?_
  exact q_retI dX2_finish_36 rfl
theorem e_X2_finish_82 (v1 : Int32) (h : mx_H)  : mx_D (2, mm_X2_finish, 82, [.ref 34, .int v1], []) h = (mx_C mm_X2_watch [.ref 34, .int (2 * v1)] h).bind (fun o => mx_D (2, mm_X2_finish, 89, [.ref 34, .int v1], o.1.toList ++ []) o.2) := by
  refine Eq.trans (q_aload_n dX2_finish_82 rfl rfl) ?_
  refine Eq.trans (q_iconst (x := 2) dX2_finish_83 rfl) ?_
  refine Eq.trans (q_iload_n dX2_finish_84 rfl) ?_
  refine Eq.trans (q_imul dX2_finish_85) ?_
  exact q_call0 (as := [.int (2 * v1)]) (rest := []) dX2_finish_86 mx_inv_2_40 rfl rfl rfl ⟨Nat.le_of_ble_eq_true rfl, Nat.le_of_ble_eq_true rfl, (Nat.le_of_ble_eq_true rfl)⟩
theorem e_X2_finish_89 (v1 : Int32) (h : mx_H)  : mx_D (2, mm_X2_finish, 89, [.ref 34, .int v1], []) h = (mx_C mm_X2_watch [.ref 34, .int ((2 * v1) + 1)] h).bind (fun o => mx_D (2, mm_X2_finish, 98, [.ref 34, .int v1], o.1.toList ++ []) o.2) := by
  refine Eq.trans (q_aload_n dX2_finish_89 rfl rfl) ?_
  refine Eq.trans (q_iconst (x := 2) dX2_finish_90 rfl) ?_
  refine Eq.trans (q_iload_n dX2_finish_91 rfl) ?_
  refine Eq.trans (q_imul dX2_finish_92) ?_
  refine Eq.trans (q_iconst (x := 1) dX2_finish_93 rfl) ?_
  refine Eq.trans (q_iadd dX2_finish_94) ?_
  exact q_call0 (as := [.int ((2 * v1) + 1)]) (rest := []) dX2_finish_95 mx_inv_2_40 rfl rfl rfl ⟨Nat.le_of_ble_eq_true rfl, Nat.le_of_ble_eq_true rfl, (Nat.le_of_ble_eq_true rfl)⟩
theorem e_X2_finish_98 (v1 : Int32) (h : mx_H)  : mx_D (2, mm_X2_finish, 98, [.ref 34, .int v1], []) h = some (some (.int v1), h) := by
  refine Eq.trans (q_iload_n dX2_finish_98 rfl) ?_
  exact q_retI dX2_finish_99 rfl
theorem e_X2_watched_0 (v1 : Int32) (h : mx_H)  : mx_D (1, mm_X2_watched, 0, [.ref 34, .int v1], []) h = if mx_in (v1 >>> (1 &&& 31)) 4517 = true then if mx_in ((h.1 36 ((v1 >>> (1 &&& 31)).toNatClampNeg)) + (v1 &&& 1)) 14828 = true then some (some (.int (h.1 35 (((h.1 36 ((v1 >>> (1 &&& 31)).toNatClampNeg)) + (v1 &&& 1)).toNatClampNeg))), h) else none else none := by
  refine Eq.trans (q_aload_n dX2_watched_0 rfl rfl) ?_
  refine Eq.trans (q_getf dX2_watched_1 mx_fld_2_11 (gf_34_0 _)) ?_
  refine Eq.trans (q_aload_n dX2_watched_4 rfl rfl) ?_
  refine Eq.trans (q_getf dX2_watched_5 mx_fld_2_15 (gf_34_1 _)) ?_
  refine Eq.trans (q_iload_n dX2_watched_8 rfl) ?_
  refine Eq.trans (q_iconst (x := 1) dX2_watched_9 rfl) ?_
  refine Eq.trans (q_ishr dX2_watched_10) ?_
  refine Eq.trans (q_ld (w := 0) (by decide) dX2_watched_11 (al_36 _ _)) (q_ite ?_)
  refine Eq.trans (q_iload_n dX2_watched_12 rfl) ?_
  refine Eq.trans (q_iconst (x := 1) dX2_watched_13 rfl) ?_
  refine Eq.trans (q_iand dX2_watched_14) ?_
  refine Eq.trans (q_iadd dX2_watched_15) ?_
  refine Eq.trans (q_ld (w := 0) (by decide) dX2_watched_16 (al_35 _ _)) (q_ite ?_)
  exact q_retI dX2_watched_17 rfl
theorem c_X2_watched (v1 : Int32) (h : mx_H) : mx_C mm_X2_watched [.ref 34, .int v1] h = mx_D (1, mm_X2_watched, 0, [.ref 34, .int v1], []) h := rfl
theorem e_X2_watch_0 (v1 : Int32) (h : mx_H)  : mx_D (1, mm_X2_watch, 0, [.ref 34, .int v1, mx_junk], []) h = if mx_in (v1 >>> (1 &&& 31)) 4517 = true then if mx_in ((h.1 36 ((v1 >>> (1 &&& 31)).toNatClampNeg)) + (v1 &&& 1)) 14828 = true then if mx_in (h.1 35 (((h.1 36 ((v1 >>> (1 &&& 31)).toNatClampNeg)) + (v1 &&& 1)).toNatClampNeg)) 2130 = true then if mx_in v1 9032 = true then if mx_in (h.1 35 (((h.1 36 ((v1 >>> (1 &&& 31)).toNatClampNeg)) + (v1 &&& 1)).toNatClampNeg)) 2130 = true then some (none, ((mx_u (mx_u h.1 38 v1.toNatClampNeg (h.1 37 ((h.1 35 (((h.1 36 ((v1 >>> (1 &&& 31)).toNatClampNeg)) + (v1 &&& 1)).toNatClampNeg)).toNatClampNeg))) 37 ((h.1 35 (((h.1 36 ((v1 >>> (1 &&& 31)).toNatClampNeg)) + (v1 &&& 1)).toNatClampNeg)).toNatClampNeg) v1), h.2.1, h.2.2)) else none else none else none else none else none := by
  refine Eq.trans (q_aload_n dX2_watch_0 rfl rfl) ?_
  refine Eq.trans (q_getf dX2_watch_1 mx_fld_2_11 (gf_34_0 _)) ?_
  refine Eq.trans (q_aload_n dX2_watch_4 rfl rfl) ?_
  refine Eq.trans (q_getf dX2_watch_5 mx_fld_2_15 (gf_34_1 _)) ?_
  refine Eq.trans (q_iload_n dX2_watch_8 rfl) ?_
  refine Eq.trans (q_iconst (x := 1) dX2_watch_9 rfl) ?_
  refine Eq.trans (q_ishr dX2_watch_10) ?_
  refine Eq.trans (q_ld (w := 0) (by decide) dX2_watch_11 (al_36 _ _)) (q_ite ?_)
  refine Eq.trans (q_iload_n dX2_watch_12 rfl) ?_
  refine Eq.trans (q_iconst (x := 1) dX2_watch_13 rfl) ?_
  refine Eq.trans (q_iand dX2_watch_14) ?_
  refine Eq.trans (q_iadd dX2_watch_15) ?_
  refine Eq.trans (q_ld (w := 0) (by decide) dX2_watch_16 (al_35 _ _)) (q_ite ?_)
  refine Eq.trans (q_istore_n (L' := [.ref 34, .int v1, .int (h.1 35 (((h.1 36 ((v1 >>> (1 &&& 31)).toNatClampNeg)) + (v1 &&& 1)).toNatClampNeg))]) dX2_watch_17 (Nat.le_of_ble_eq_true rfl) rfl) ?_
  refine Eq.trans (q_aload_n dX2_watch_18 rfl rfl) ?_
  refine Eq.trans (q_getf dX2_watch_19 mx_fld_2_21 (gf_34_4 _)) ?_
  refine Eq.trans (q_iload_n dX2_watch_22 rfl) ?_
  refine Eq.trans (q_aload_n dX2_watch_23 rfl rfl) ?_
  refine Eq.trans (q_getf dX2_watch_24 mx_fld_2_18 (gf_34_3 _)) ?_
  refine Eq.trans (q_iload_n dX2_watch_27 rfl) ?_
  refine Eq.trans (q_ld (w := 0) (by decide) dX2_watch_28 (al_37 _ _)) (q_ite ?_)
  refine Eq.trans (q_st (w := 0) (by decide) dX2_watch_29 (as_38 _ _ _)) (q_ite ?_)
  refine Eq.trans (q_aload_n dX2_watch_30 rfl rfl) ?_
  refine Eq.trans (q_getf dX2_watch_31 mx_fld_2_18 (gf_34_3 _)) ?_
  refine Eq.trans (q_iload_n dX2_watch_34 rfl) ?_
  refine Eq.trans (q_iload_n dX2_watch_35 rfl) ?_
  refine Eq.trans (q_st (w := 0) (by decide) dX2_watch_36 (as_37 _ _ _)) (q_ite ?_)
  exact q_retV dX2_watch_37 rfl
theorem c_X2_watch (v1 : Int32) (h : mx_H) : mx_C mm_X2_watch [.ref 34, .int v1] h = mx_D (1, mm_X2_watch, 0, [.ref 34, .int v1, mx_junk], []) h := rfl
theorem e_X2_exchange_0 (v1 : Int32) (v2 : Int32) (h : mx_H)  : mx_D (2, mm_X2_exchange, 0, [.ref 34, .int v1, .int v2, mx_junk, mx_junk], []) h = if mx_in (v1 >>> (1 &&& 31)) 4517 = true then if mx_in v2 14828 = true then if mx_in ((h.1 36 ((v1 >>> (1 &&& 31)).toNatClampNeg)) + (v1 &&& 1)) 14828 = true then if mx_in v2 14828 = true then if mx_in ((h.1 36 ((v1 >>> (1 &&& 31)).toNatClampNeg)) + (v1 &&& 1)) 14828 = true then (mx_C mm_X2_watch [.ref 34, .int v1] ((mx_u (mx_u h.1 35 v2.toNatClampNeg (h.1 35 (((h.1 36 ((v1 >>> (1 &&& 31)).toNatClampNeg)) + (v1 &&& 1)).toNatClampNeg))) 35 (((h.1 36 ((v1 >>> (1 &&& 31)).toNatClampNeg)) + (v1 &&& 1)).toNatClampNeg) (h.1 35 v2.toNatClampNeg)), h.2.1, h.2.2)).bind (fun o => mx_D (2, mm_X2_exchange, 46, [.ref 34, .int v1, .int v2, .int ((h.1 36 ((v1 >>> (1 &&& 31)).toNatClampNeg)) + (v1 &&& 1)), .int (h.1 35 v2.toNatClampNeg)], o.1.toList ++ []) o.2) else none else none else none else none else none := by
  refine Eq.trans (q_aload_n dX2_exchange_0 rfl rfl) ?_
  refine Eq.trans (q_getf dX2_exchange_1 mx_fld_2_15 (gf_34_1 _)) ?_
  refine Eq.trans (q_iload_n dX2_exchange_4 rfl) ?_
  refine Eq.trans (q_iconst (x := 1) dX2_exchange_5 rfl) ?_
  refine Eq.trans (q_ishr dX2_exchange_6) ?_
  refine Eq.trans (q_ld (w := 0) (by decide) dX2_exchange_7 (al_36 _ _)) (q_ite ?_)
  refine Eq.trans (q_iload_n dX2_exchange_8 rfl) ?_
  refine Eq.trans (q_iconst (x := 1) dX2_exchange_9 rfl) ?_
  refine Eq.trans (q_iand dX2_exchange_10) ?_
  refine Eq.trans (q_iadd dX2_exchange_11) ?_
  refine Eq.trans (q_istore_n (L' := [.ref 34, .int v1, .int v2, .int ((h.1 36 ((v1 >>> (1 &&& 31)).toNatClampNeg)) + (v1 &&& 1)), mx_junk]) dX2_exchange_12 (Nat.le_of_ble_eq_true rfl) rfl) ?_
  refine Eq.trans (q_aload_n dX2_exchange_13 rfl rfl) ?_
  refine Eq.trans (q_getf dX2_exchange_14 mx_fld_2_11 (gf_34_0 _)) ?_
  refine Eq.trans (q_iload_n dX2_exchange_17 rfl) ?_
  refine Eq.trans (q_ld (w := 0) (by decide) dX2_exchange_18 (al_35 _ _)) (q_ite ?_)
  refine Eq.trans (q_istore (L' := [.ref 34, .int v1, .int v2, .int ((h.1 36 ((v1 >>> (1 &&& 31)).toNatClampNeg)) + (v1 &&& 1)), .int (h.1 35 v2.toNatClampNeg)]) dX2_exchange_19 (Nat.le_of_ble_eq_true rfl) rfl) ?_
  refine Eq.trans (q_aload_n dX2_exchange_21 rfl rfl) ?_
  refine Eq.trans (q_getf dX2_exchange_22 mx_fld_2_11 (gf_34_0 _)) ?_
  refine Eq.trans (q_iload_n dX2_exchange_25 rfl) ?_
  refine Eq.trans (q_aload_n dX2_exchange_26 rfl rfl) ?_
  refine Eq.trans (q_getf dX2_exchange_27 mx_fld_2_11 (gf_34_0 _)) ?_
  refine Eq.trans (q_iload_n dX2_exchange_30 rfl) ?_
  refine Eq.trans (q_ld (w := 0) (by decide) dX2_exchange_31 (al_35 _ _)) (q_ite ?_)
  refine Eq.trans (q_st (w := 0) (by decide) dX2_exchange_32 (as_35 _ _ _)) (q_ite ?_)
  refine Eq.trans (q_aload_n dX2_exchange_33 rfl rfl) ?_
  refine Eq.trans (q_getf dX2_exchange_34 mx_fld_2_11 (gf_34_0 _)) ?_
  refine Eq.trans (q_iload_n dX2_exchange_37 rfl) ?_
  refine Eq.trans (q_iload dX2_exchange_38 rfl) ?_
  refine Eq.trans (q_st (w := 0) (by decide) dX2_exchange_40 (as_35 _ _ _)) (q_ite ?_)
  refine Eq.trans (q_aload_n dX2_exchange_41 rfl rfl) ?_
  refine Eq.trans (q_iload_n dX2_exchange_42 rfl) ?_
  exact q_call0 (as := [.int v1]) (rest := []) dX2_exchange_43 mx_inv_2_40 rfl rfl rfl ⟨Nat.le_of_ble_eq_true rfl, Nat.le_of_ble_eq_true rfl, (Nat.le_of_ble_eq_true rfl)⟩
theorem c_X2_exchange (v1 : Int32) (v2 : Int32) (h : mx_H) : mx_C mm_X2_exchange [.ref 34, .int v1, .int v2] h = mx_D (2, mm_X2_exchange, 0, [.ref 34, .int v1, .int v2, mx_junk, mx_junk], []) h := rfl
theorem e_X2_exchange_46 (v1 : Int32) (v2 : Int32) (v3 : Int32) (v4 : Int32) (h : mx_H)  : mx_D (2, mm_X2_exchange, 46, [.ref 34, .int v1, .int v2, .int v3, .int v4], []) h = some (none, h) := by
  exact q_retV dX2_exchange_46 rfl
