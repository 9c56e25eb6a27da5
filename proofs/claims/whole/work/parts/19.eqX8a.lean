theorem e_X8_append_0 (v1 : Int32) (v2 : Int32) (h : mx_H)  : mx_D (2, mm_X8_append, 0, [.ref 1, .int v1, .int v2, mx_junk, mx_junk], []) h = if v2 < 1 then mx_D (2, mm_X8_append, 21, [.ref 1, .int v1, .int v2, mx_junk, mx_junk], []) h else (if 4 < v2 then mx_D (2, mm_X8_append, 21, [.ref 1, .int v1, .int v2, mx_junk, mx_junk], []) h else (if ((h.1 1 1) + v2) ≤ 120 then mx_D (2, mm_X8_append, 25, [.ref 1, .int v1, .int v2, .int 0, mx_junk], []) h else (mx_D (2, mm_X8_append, 21, [.ref 1, .int v1, .int v2, mx_junk, mx_junk], []) h))) := by
  refine Eq.trans (q_iload_n dX8_append_0 rfl) ?_
  refine Eq.trans (q_iconst (x := 1) dX8_append_1 rfl) ?_
  refine Eq.trans (q_icmp_lt 21 dX8_append_2 rfl) (q_ite2 ?_ ?_)
  · rfl
  · refine Eq.trans (q_iload_n dX8_append_5 rfl) ?_
    refine Eq.trans (q_iconst (x := 4) dX8_append_6 rfl) ?_
    refine Eq.trans (q_icmp_gt 21 dX8_append_7 rfl) (q_ite2 ?_ ?_)
    · rfl
    · refine Eq.trans (q_aload_n dX8_append_10 rfl rfl) ?_
      refine Eq.trans (q_getf dX8_append_11 mx_fld_8_28 (gf_1_1 _)) ?_
      refine Eq.trans (q_iload_n dX8_append_14 rfl) ?_
      refine Eq.trans (q_iadd dX8_append_15) ?_
      refine Eq.trans (q_bipush (x := 120) dX8_append_16 rfl) ?_
      refine Eq.trans (q_icmp_le 23 dX8_append_18 rfl) (q_ite2 ?_ ?_)
      · refine Eq.trans (q_iconst (x := 0) dX8_append_23 rfl) ?_
        refine Eq.trans (q_istore_n (L' := [.ref 1, .int v1, .int v2, .int 0, mx_junk]) dX8_append_24 (Nat.le_of_ble_eq_true rfl) rfl) ?_
        rfl
      · rfl
theorem c_X8_append (v1 : Int32) (v2 : Int32) (h : mx_H) : mx_C mm_X8_append [.ref 1, .int v1, .int v2] h = mx_D (2, mm_X8_append, 0, [.ref 1, .int v1, .int v2, mx_junk, mx_junk], []) h := rfl
theorem e_X8_append_21 (v1 : Int32) (v2 : Int32) (h : mx_H)  : mx_D (2, mm_X8_append, 21, [.ref 1, .int v1, .int v2, mx_junk, mx_junk], []) h = some (some (.int 0), h) := by
  refine Eq.trans (q_iconst (x := 0) dX8_append_21 rfl) ?_
  exact Eq.trans (q_ret dX8_append_22 rfl) (if_pos rfl)
theorem e_X8_append_25 (v1 : Int32) (v2 : Int32) (v3 : Int32) (v4 : Value) (h : mx_H)  : mx_D (2, mm_X8_append, 25, [.ref 1, .int v1, .int v2, .int v3, v4], []) h = if v2 ≤ v3 then mx_D (2, mm_X8_append, 63, [.ref 1, .int v1, .int v2, .int (v2 - 1), v4], []) h else ((mx_C mm_X8_byteOf [.int v1, .int v3] h).bind (fun o => mx_D (2, mm_X8_append, 35, [.ref 1, .int v1, .int v2, .int v3, v4], o.1.toList ++ []) o.2)) := by
  refine Eq.trans (q_iload_n dX8_append_25 rfl) ?_
  refine Eq.trans (q_iload_n dX8_append_26 rfl) ?_
  refine Eq.trans (q_icmp_ge 59 dX8_append_27 rfl) (q_ite2 ?_ ?_)
  · refine Eq.trans (q_iload_n dX8_append_59 rfl) ?_
    refine Eq.trans (q_iconst (x := 1) dX8_append_60 rfl) ?_
    refine Eq.trans (q_isub dX8_append_61) ?_
    refine Eq.trans (q_istore_n (L' := [.ref 1, .int v1, .int v2, .int (v2 - 1), v4]) dX8_append_62 (Nat.le_of_ble_eq_true rfl) rfl) ?_
    rfl
  · refine Eq.trans (q_iload_n dX8_append_30 rfl) ?_
    refine Eq.trans (q_iload_n dX8_append_31 rfl) ?_
    exact q_call1 (as := [.int v1, .int v3]) (rest := []) dX8_append_32 mx_inv_8_32 rfl rfl ⟨Nat.le_of_ble_eq_true rfl, Nat.le_of_ble_eq_true rfl, (Nat.le_of_ble_eq_true rfl)⟩
theorem e_X8_append_35 (v1 : Int32) (v2 : Int32) (v3 : Int32) (v4 : Value) (s0 : Int32) (h : mx_H)  : mx_D (2, mm_X8_append, 35, [.ref 1, .int v1, .int v2, .int v3, v4], [.int s0]) h = if s0 < 32 then mx_D (2, mm_X8_append, 51, [.ref 1, .int v1, .int v2, .int v3, .int s0], []) h else (if s0 ≤ 126 then mx_D (2, mm_X8_append, 25, [.ref 1, .int v1, .int v2, .int (v3 + 1), .int s0], []) h else (mx_D (2, mm_X8_append, 51, [.ref 1, .int v1, .int v2, .int v3, .int s0], []) h)) := by
  refine Eq.trans (q_istore (L' := [.ref 1, .int v1, .int v2, .int v3, .int s0]) dX8_append_35 (Nat.le_of_ble_eq_true rfl) rfl) ?_
  refine Eq.trans (q_iload dX8_append_37 rfl) ?_
  refine Eq.trans (q_bipush (x := 32) dX8_append_39 rfl) ?_
  refine Eq.trans (q_icmp_lt 51 dX8_append_41 rfl) (q_ite2 ?_ ?_)
  · rfl
  · refine Eq.trans (q_iload dX8_append_44 rfl) ?_
    refine Eq.trans (q_bipush (x := 126) dX8_append_46 rfl) ?_
    refine Eq.trans (q_icmp_le 53 dX8_append_48 rfl) (q_ite2 ?_ ?_)
    · refine Eq.trans (q_iinc (x' := 1) (L' := [.ref 1, .int v1, .int v2, .int (v3 + 1), .int s0]) dX8_append_53 rfl rfl rfl) ?_
      refine Eq.trans (q_goto 25 dX8_append_56 rfl) ?_
      rfl
    · rfl
theorem e_X8_append_51 (v1 : Int32) (v2 : Int32) (v3 : Int32) (v4 : Int32) (h : mx_H)  : mx_D (2, mm_X8_append, 51, [.ref 1, .int v1, .int v2, .int v3, .int v4], []) h = some (some (.int 0), h) := by
  refine Eq.trans (q_iconst (x := 0) dX8_append_51 rfl) ?_
  exact Eq.trans (q_ret dX8_append_52 rfl) (if_pos rfl)
theorem e_X8_append_63 (v1 : Int32) (v2 : Int32) (v3 : Int32) (v4 : Value) (h : mx_H)  : mx_D (2, mm_X8_append, 63, [.ref 1, .int v1, .int v2, .int v3, v4], []) h = if v3 < 0 then some (some (.int 1), h) else ((mx_C mm_X8_byteOf [.int v1, .int v3] h).bind (fun o => mx_D (2, mm_X8_append, 80, [.ref 1, .int v1, .int v2, .int v3, v4], o.1.toList ++ [.int (h.1 1 1), .ref 2]) o.2)) := by
  refine Eq.trans (q_iload_n dX8_append_63 rfl) ?_
  refine Eq.trans (q_if_lt 98 dX8_append_64 rfl) (q_ite2 ?_ ?_)
  · refine Eq.trans (q_iconst (x := 1) dX8_append_98 rfl) ?_
    exact Eq.trans (q_ret dX8_append_99 rfl) (if_pos rfl)
  · refine Eq.trans (q_aload_n dX8_append_67 rfl rfl) ?_
    refine Eq.trans (q_getf dX8_append_68 mx_fld_8_9 (gf_1_0 _)) ?_
    refine Eq.trans (q_aload_n dX8_append_71 rfl rfl) ?_
    refine Eq.trans (q_getf dX8_append_72 mx_fld_8_28 (gf_1_1 _)) ?_
    refine Eq.trans (q_iload_n dX8_append_75 rfl) ?_
    refine Eq.trans (q_iload_n dX8_append_76 rfl) ?_
    exact q_call1 (as := [.int v1, .int v3]) (rest := [.int (h.1 1 1), .ref 2]) dX8_append_77 mx_inv_8_32 rfl rfl ⟨Nat.le_of_ble_eq_true rfl, Nat.le_of_ble_eq_true rfl, (Nat.le_of_ble_eq_true rfl)⟩
theorem e_X8_append_80 (v1 : Int32) (v2 : Int32) (v3 : Int32) (v4 : Value) (s1 : Int32) (s2 : Int32) (h : mx_H)  : mx_D (2, mm_X8_append, 80, [.ref 1, .int v1, .int v2, .int v3, v4], [.int s2, .int s1, .ref 2]) h = if mx_in s1 120 = true then mx_D (2, mm_X8_append, 63, [.ref 1, .int v1, .int v2, .int (v3 + (-1)), v4], []) ((mx_u (mx_u h.1 2 s1.toNatClampNeg (vp_nar .char ((s2.toUInt32 % 65536).toInt32))) 1 1 (((mx_u h.1 2 s1.toNatClampNeg (vp_nar .char ((s2.toUInt32 % 65536).toInt32))) 1 1) + 1)), h.2.1, h.2.2) else none := by
  refine Eq.trans (q_i2c dX8_append_80) ?_
  refine Eq.trans (q_st (w := 1) (by decide) dX8_append_81 (as_2 _ _ _)) (q_ite ?_)
  refine Eq.trans (q_aload_n dX8_append_82 rfl rfl) ?_
  refine Eq.trans (q_dup dX8_append_83 rfl) ?_
  refine Eq.trans (q_getf dX8_append_84 mx_fld_8_28 (gf_1_1 _)) ?_
  refine Eq.trans (q_iconst (x := 1) dX8_append_87 rfl) ?_
  refine Eq.trans (q_iadd dX8_append_88) ?_
  refine Eq.trans (q_putf dX8_append_89 mx_fld_8_28 (pf_1_1 _ _)) ?_
  refine Eq.trans (q_iinc (x' := (-1)) (L' := [.ref 1, .int v1, .int v2, .int (v3 + (-1)), v4]) dX8_append_92 rfl rfl rfl) ?_
  refine Eq.trans (q_goto 63 dX8_append_95 rfl) ?_
  rfl
theorem e_X8_byteOf_0 (v0 : Int32) (v1 : Int32) (h : mx_H)  : mx_D (1, mm_X8_byteOf, 0, [.int v0, .int v1], []) h = some (some (.int ((v0 >>> ((8 * v1) &&& 31)) &&& 255)), h) := by
  refine Eq.trans (q_iload_n dX8_byteOf_0 rfl) ?_
  refine Eq.trans (q_bipush (x := 8) dX8_byteOf_1 rfl) ?_
  refine Eq.trans (q_iload_n dX8_byteOf_3 rfl) ?_
  refine Eq.trans (q_imul dX8_byteOf_4) ?_
  refine Eq.trans (q_ishr dX8_byteOf_5) ?_
  refine Eq.trans (q_sipush (x := 255) dX8_byteOf_6 rfl) ?_
  refine Eq.trans (q_iand dX8_byteOf_9) ?_
  exact q_retI dX8_byteOf_10 rfl
theorem c_X8_byteOf (v0 : Int32) (v1 : Int32) (h : mx_H) : mx_C mm_X8_byteOf [.int v0, .int v1] h = mx_D (1, mm_X8_byteOf, 0, [.int v0, .int v1], []) h := rfl
theorem e_X8_clear_0  (h : mx_H)  : mx_D (1, mm_X8_clear, 0, [.ref 1], []) h = some (none, ((mx_u h.1 1 1 0), h.2.1, h.2.2)) := by
  refine Eq.trans (q_aload_n dX8_clear_0 rfl rfl) ?_
  refine Eq.trans (q_iconst (x := 0) dX8_clear_1 rfl) ?_
  refine Eq.trans (q_putf dX8_clear_2 mx_fld_8_28 (pf_1_1 _ _)) ?_
  exact q_retV dX8_clear_5 rfl
theorem c_X8_clear  (h : mx_H) : mx_C mm_X8_clear [.ref 1] h = mx_D (1, mm_X8_clear, 0, [.ref 1], []) h := rfl
theorem e_X8_split_0  (h : mx_H)  : mx_D (15, mm_X8_split, 0, [.ref 1, mx_junk, mx_junk], []) h = mx_D (15, mm_X8_split, 7, [.ref 1, .int 0, mx_junk], []) ((mx_u h.1 1 5 0), h.2.1, h.2.2) := by
  refine Eq.trans (q_aload_n dX8_split_0 rfl rfl) ?_
  refine Eq.trans (q_iconst (x := 0) dX8_split_1 rfl) ?_
  refine Eq.trans (q_putf dX8_split_2 mx_fld_8_36 (pf_1_5 _ _)) ?_
  refine Eq.trans (q_iconst (x := 0) dX8_split_5 rfl) ?_
  refine Eq.trans (q_istore_n (L' := [.ref 1, .int 0, mx_junk]) dX8_split_6 (Nat.le_of_ble_eq_true rfl) rfl) ?_
  rfl
theorem c_X8_split  (h : mx_H) : mx_C mm_X8_split [.ref 1] h = mx_D (15, mm_X8_split, 0, [.ref 1, mx_junk, mx_junk], []) h := rfl
theorem e_X8_split_7 (v1 : Int32) (v2 : Value) (h : mx_H)  : mx_D (15, mm_X8_split, 7, [.ref 1, .int v1, v2], []) h = if (h.1 1 1) ≤ v1 then (mx_C mm_X8_addToken [.ref 1, .int (h.1 1 1), .int (h.1 1 1)] h).bind (fun o => mx_D (15, mm_X8_split, 93, [.ref 1, .int v1, v2], o.1.toList ++ []) o.2) else (if mx_in v1 120 = true then if (h.1 2 v1.toNatClampNeg) = 32 then mx_D (15, mm_X8_split, 7, [.ref 1, .int (v1 + 1), .int v1], []) h else (if mx_in v1 120 = true then (mx_C mm_X8_isOfSymbol [.int (h.1 2 v1.toNatClampNeg)] h).bind (fun o => mx_D (15, mm_X8_split, 43, [.ref 1, .int (v1 + 1), .int v1], o.1.toList ++ []) o.2) else none) else none) := by
  refine Eq.trans (q_iload_n dX8_split_7 rfl) ?_
  refine Eq.trans (q_aload_n dX8_split_8 rfl rfl) ?_
  refine Eq.trans (q_getf dX8_split_9 mx_fld_8_28 (gf_1_1 _)) ?_
  refine Eq.trans (q_icmp_ge 81 dX8_split_12 rfl) (q_ite2 ?_ ?_)
  · refine Eq.trans (q_aload_n dX8_split_81 rfl rfl) ?_
    refine Eq.trans (q_aload_n dX8_split_82 rfl rfl) ?_
    refine Eq.trans (q_getf dX8_split_83 mx_fld_8_28 (gf_1_1 _)) ?_
    refine Eq.trans (q_aload_n dX8_split_86 rfl rfl) ?_
    refine Eq.trans (q_getf dX8_split_87 mx_fld_8_28 (gf_1_1 _)) ?_
    exact q_call0 (as := [.int (h.1 1 1), .int (h.1 1 1)]) (rest := []) dX8_split_90 mx_inv_8_43 rfl rfl rfl ⟨Nat.le_of_ble_eq_true rfl, Nat.le_of_ble_eq_true rfl, (Nat.le_of_ble_eq_true rfl)⟩
  · refine Eq.trans (q_iload_n dX8_split_15 rfl) ?_
    refine Eq.trans (q_istore_n (L' := [.ref 1, .int v1, .int v1]) dX8_split_16 (Nat.le_of_ble_eq_true rfl) rfl) ?_
    refine Eq.trans (q_iinc (x' := 1) (L' := [.ref 1, .int (v1 + 1), .int v1]) dX8_split_17 rfl rfl rfl) ?_
    refine Eq.trans (q_aload_n dX8_split_20 rfl rfl) ?_
    refine Eq.trans (q_getf dX8_split_21 mx_fld_8_9 (gf_1_0 _)) ?_
    refine Eq.trans (q_iload_n dX8_split_24 rfl) ?_
    refine Eq.trans (q_ld (w := 1) (by decide) dX8_split_25 (al_2 _ _)) (q_ite ?_)
    refine Eq.trans (q_bipush (x := 32) dX8_split_26 rfl) ?_
    refine Eq.trans (q_icmp_ne 34 dX8_split_28 rfl) (q_ite2 ?_ ?_)
    · refine Eq.trans (q_goto 7 dX8_split_31 rfl) ?_
      rfl
    · refine Eq.trans (q_aload_n dX8_split_34 rfl rfl) ?_
      refine Eq.trans (q_getf dX8_split_35 mx_fld_8_9 (gf_1_0 _)) ?_
      refine Eq.trans (q_iload_n dX8_split_38 rfl) ?_
      refine Eq.trans (q_ld (w := 1) (by decide) dX8_split_39 (al_2 _ _)) (q_ite ?_)
      exact q_call1 (as := [.int (h.1 2 v1.toNatClampNeg)]) (rest := []) dX8_split_40 mx_inv_8_39 rfl rfl ⟨Nat.le_of_ble_eq_true rfl, Nat.le_of_ble_eq_true rfl, (Nat.le_of_ble_eq_true rfl)⟩
theorem e_X8_split_43 (v1 : Int32) (v2 : Int32) (s0 : Int32) (h : mx_H)  : mx_D (15, mm_X8_split, 43, [.ref 1, .int v1, .int v2], [.int s0]) h = if s0 = 0 then mx_D (15, mm_X8_split, 72, [.ref 1, .int v1, .int v2], []) h else (mx_D (15, mm_X8_split, 46, [.ref 1, .int v1, .int v2], []) h) := by
  refine Eq.trans (q_if_eq 72 dX8_split_43 rfl) (q_ite2 ?_ ?_)
  · rfl
  · rfl
theorem e_X8_split_46 (v1 : Int32) (v2 : Int32) (h : mx_H)  : mx_D (15, mm_X8_split, 46, [.ref 1, .int v1, .int v2], []) h = if (h.1 1 1) ≤ v1 then mx_D (15, mm_X8_split, 72, [.ref 1, .int v1, .int v2], []) h else (if mx_in v1 120 = true then (mx_C mm_X8_isOfSymbol [.int (h.1 2 v1.toNatClampNeg)] h).bind (fun o => mx_D (15, mm_X8_split, 63, [.ref 1, .int v1, .int v2], o.1.toList ++ []) o.2) else none) := by
  refine Eq.trans (q_iload_n dX8_split_46 rfl) ?_
  refine Eq.trans (q_aload_n dX8_split_47 rfl rfl) ?_
  refine Eq.trans (q_getf dX8_split_48 mx_fld_8_28 (gf_1_1 _)) ?_
  refine Eq.trans (q_icmp_ge 72 dX8_split_51 rfl) (q_ite2 ?_ ?_)
  · rfl
  · refine Eq.trans (q_aload_n dX8_split_54 rfl rfl) ?_
    refine Eq.trans (q_getf dX8_split_55 mx_fld_8_9 (gf_1_0 _)) ?_
    refine Eq.trans (q_iload_n dX8_split_58 rfl) ?_
    refine Eq.trans (q_ld (w := 1) (by decide) dX8_split_59 (al_2 _ _)) (q_ite ?_)
    exact q_call1 (as := [.int (h.1 2 v1.toNatClampNeg)]) (rest := []) dX8_split_60 mx_inv_8_39 rfl rfl ⟨Nat.le_of_ble_eq_true rfl, Nat.le_of_ble_eq_true rfl, (Nat.le_of_ble_eq_true rfl)⟩
theorem e_X8_split_63 (v1 : Int32) (v2 : Int32) (s0 : Int32) (h : mx_H)  : mx_D (15, mm_X8_split, 63, [.ref 1, .int v1, .int v2], [.int s0]) h = if s0 = 0 then mx_D (15, mm_X8_split, 72, [.ref 1, .int v1, .int v2], []) h else (mx_D (15, mm_X8_split, 46, [.ref 1, .int (v1 + 1), .int v2], []) h) := by
  refine Eq.trans (q_if_eq 72 dX8_split_63 rfl) (q_ite2 ?_ ?_)
  · rfl
  · refine Eq.trans (q_iinc (x' := 1) (L' := [.ref 1, .int (v1 + 1), .int v2]) dX8_split_66 rfl rfl rfl) ?_
    refine Eq.trans (q_goto 46 dX8_split_69 rfl) ?_
    rfl
theorem e_X8_split_72 (v1 : Int32) (v2 : Int32) (h : mx_H)  : mx_D (15, mm_X8_split, 72, [.ref 1, .int v1, .int v2], []) h = (mx_C mm_X8_addToken [.ref 1, .int v2, .int v1] h).bind (fun o => mx_D (15, mm_X8_split, 78, [.ref 1, .int v1, .int v2], o.1.toList ++ []) o.2) := by
  refine Eq.trans (q_aload_n dX8_split_72 rfl rfl) ?_
  refine Eq.trans (q_iload_n dX8_split_73 rfl) ?_
  refine Eq.trans (q_iload_n dX8_split_74 rfl) ?_
  exact q_call0 (as := [.int v2, .int v1]) (rest := []) dX8_split_75 mx_inv_8_43 rfl rfl rfl ⟨Nat.le_of_ble_eq_true rfl, Nat.le_of_ble_eq_true rfl, (Nat.le_of_ble_eq_true rfl)⟩
theorem e_X8_split_78 (v1 : Int32) (v2 : Int32) (h : mx_H)  : mx_D (15, mm_X8_split, 78, [.ref 1, .int v1, .int v2], []) h = mx_D (15, mm_X8_split, 7, [.ref 1, .int v1, .int v2], []) h := by
  refine Eq.trans (q_goto 7 dX8_split_78 rfl) ?_
  rfl
theorem e_X8_split_93 (v1 : Int32) (v2 : Value) (h : mx_H)  : mx_D (15, mm_X8_split, 93, [.ref 1, .int v1, v2], []) h = some (none, h) := by
  exact q_retV dX8_split_93 rfl
theorem e_X8_addToken_0 (v1 : Int32) (v2 : Int32) (h : mx_H)  : mx_D (14, mm_X8_addToken, 0, [.ref 1, .int v1, .int v2], []) h = if 121 ≤ (h.1 1 5) then mx_D (14, mm_X8_addToken, 54, [.ref 1, .int v1, .int v2], []) h else (if mx_in (h.1 1 5) 121 = true then if mx_in ((mx_u h.1 3 ((h.1 1 5).toNatClampNeg) v1) 1 5) 121 = true then (mx_C mm_X8_findWord [.ref 1, .int v1, .int v2] ((mx_u (mx_u h.1 3 ((h.1 1 5).toNatClampNeg) v1) 4 (((mx_u h.1 3 ((h.1 1 5).toNatClampNeg) v1) 1 5).toNatClampNeg) v2), h.2.1, h.2.2)).bind (fun o => mx_D (14, mm_X8_addToken, 43, [.ref 1, .int v1, .int v2], o.1.toList ++ [.int ((mx_u (mx_u h.1 3 ((h.1 1 5).toNatClampNeg) v1) 4 (((mx_u h.1 3 ((h.1 1 5).toNatClampNeg) v1) 1 5).toNatClampNeg) v2) 1 5), .ref 5]) o.2) else none else none) := by
  refine Eq.trans (q_aload_n dX8_addToken_0 rfl rfl) ?_
  refine Eq.trans (q_getf dX8_addToken_1 mx_fld_8_36 (gf_1_5 _)) ?_
  refine Eq.trans (q_bipush (x := 121) dX8_addToken_4 rfl) ?_
  refine Eq.trans (q_icmp_ge 54 dX8_addToken_6 rfl) (q_ite2 ?_ ?_)
  · rfl
  · refine Eq.trans (q_aload_n dX8_addToken_9 rfl rfl) ?_
    refine Eq.trans (q_getf dX8_addToken_10 mx_fld_8_15 (gf_1_2 _)) ?_
    refine Eq.trans (q_aload_n dX8_addToken_13 rfl rfl) ?_
    refine Eq.trans (q_getf dX8_addToken_14 mx_fld_8_36 (gf_1_5 _)) ?_
    refine Eq.trans (q_iload_n dX8_addToken_17 rfl) ?_
    refine Eq.trans (q_st (w := 0) (by decide) dX8_addToken_18 (as_3 _ _ _)) (q_ite ?_)
    refine Eq.trans (q_aload_n dX8_addToken_19 rfl rfl) ?_
    refine Eq.trans (q_getf dX8_addToken_20 mx_fld_8_19 (gf_1_3 _)) ?_
    refine Eq.trans (q_aload_n dX8_addToken_23 rfl rfl) ?_
    refine Eq.trans (q_getf dX8_addToken_24 mx_fld_8_36 (gf_1_5 _)) ?_
    refine Eq.trans (q_iload_n dX8_addToken_27 rfl) ?_
    refine Eq.trans (q_st (w := 0) (by decide) dX8_addToken_28 (as_4 _ _ _)) (q_ite ?_)
    refine Eq.trans (q_aload_n dX8_addToken_29 rfl rfl) ?_
    refine Eq.trans (q_getf dX8_addToken_30 mx_fld_8_24 (gf_1_4 _)) ?_
    refine Eq.trans (q_aload_n dX8_addToken_33 rfl rfl) ?_
    refine Eq.trans (q_getf dX8_addToken_34 mx_fld_8_36 (gf_1_5 _)) ?_
    refine Eq.trans (q_aload_n dX8_addToken_37 rfl rfl) ?_
    refine Eq.trans (q_iload_n dX8_addToken_38 rfl) ?_
    refine Eq.trans (q_iload_n dX8_addToken_39 rfl) ?_
    exact q_call0 (as := [.int v1, .int v2]) (rest := [.int ((mx_u (mx_u h.1 3 ((h.1 1 5).toNatClampNeg) v1) 4 (((mx_u h.1 3 ((h.1 1 5).toNatClampNeg) v1) 1 5).toNatClampNeg) v2) 1 5), .ref 5]) dX8_addToken_40 mx_inv_8_47 rfl rfl rfl ⟨Nat.le_of_ble_eq_true rfl, Nat.le_of_ble_eq_true rfl, (Nat.le_of_ble_eq_true rfl)⟩
theorem c_X8_addToken (v1 : Int32) (v2 : Int32) (h : mx_H) : mx_C mm_X8_addToken [.ref 1, .int v1, .int v2] h = mx_D (14, mm_X8_addToken, 0, [.ref 1, .int v1, .int v2], []) h := rfl
theorem e_X8_addToken_43 (v1 : Int32) (v2 : Int32) (s1 : Int32) (s2 : Option Nat) (h : mx_H) (hq0 : mx_wr (mx_rf s2) = true) : mx_D (14, mm_X8_addToken, 43, [.ref 1, .int v1, .int v2], [mx_rf s2, .int s1, .ref 5]) h = if mx_in s1 121 = true then mx_D (14, mm_X8_addToken, 54, [.ref 1, .int v1, .int v2], []) ((mx_u h.1 1 5 ((h.1 1 5) + 1)), h.2.1, (mx_u h.2.2 5 s1.toNatClampNeg s2)) else none := by
  refine Eq.trans (q_st (w := 4) (by decide) dX8_addToken_43 (as_5 _ _ (q := s2) hq0)) (q_ite ?_)
  refine Eq.trans (q_aload_n dX8_addToken_44 rfl rfl) ?_
  refine Eq.trans (q_dup dX8_addToken_45 rfl) ?_
  refine Eq.trans (q_getf dX8_addToken_46 mx_fld_8_36 (gf_1_5 _)) ?_
  refine Eq.trans (q_iconst (x := 1) dX8_addToken_49 rfl) ?_
  refine Eq.trans (q_iadd dX8_addToken_50) ?_
  refine Eq.trans (q_putf dX8_addToken_51 mx_fld_8_36 (pf_1_5 _ _)) ?_
  rfl
theorem e_X8_addToken_54 (v1 : Int32) (v2 : Int32) (h : mx_H)  : mx_D (14, mm_X8_addToken, 54, [.ref 1, .int v1, .int v2], []) h = some (none, h) := by
  exact q_retV dX8_addToken_54 rfl
theorem e_X8_findWord_0 (v1 : Int32) (v2 : Int32) (h : mx_H)  : mx_D (13, mm_X8_findWord, 0, [.ref 1, .int v1, .int v2, mx_junk, mx_junk, mx_junk, mx_junk], []) h = mx_D (13, mm_X8_findWord, 11, [.ref 1, .int v1, .int v2, .ref 2000, .int 42, .int 0, mx_junk], []) h := by
  refine Eq.trans (q_gets dX8_findWord_0 mx_sta_8_51) ?_
  refine Eq.trans (q_astore_n (L' := [.ref 1, .int v1, .int v2, .ref 2000, mx_junk, mx_junk, mx_junk]) dX8_findWord_3 rfl (Nat.le_of_ble_eq_true rfl) rfl) ?_
  refine Eq.trans (q_aload_n dX8_findWord_4 rfl rfl) ?_
  refine Eq.trans (q_len (x := 42) dX8_findWord_5 rfl) ?_
  refine Eq.trans (q_istore (L' := [.ref 1, .int v1, .int v2, .ref 2000, .int 42, mx_junk, mx_junk]) dX8_findWord_6 (Nat.le_of_ble_eq_true rfl) rfl) ?_
  refine Eq.trans (q_iconst (x := 0) dX8_findWord_8 rfl) ?_
  refine Eq.trans (q_istore (L' := [.ref 1, .int v1, .int v2, .ref 2000, .int 42, .int 0, mx_junk]) dX8_findWord_9 (Nat.le_of_ble_eq_true rfl) rfl) ?_
  rfl
theorem c_X8_findWord (v1 : Int32) (v2 : Int32) (h : mx_H) : mx_C mm_X8_findWord [.ref 1, .int v1, .int v2] h = mx_D (13, mm_X8_findWord, 0, [.ref 1, .int v1, .int v2, mx_junk, mx_junk, mx_junk, mx_junk], []) h := rfl
theorem e_X8_findWord_11 (v1 : Int32) (v2 : Int32) (v4 : Int32) (v5 : Int32) (v6 : Value) (h : mx_H)  : mx_D (13, mm_X8_findWord, 11, [.ref 1, .int v1, .int v2, .ref 2000, .int v4, .int v5, v6], []) h = if v4 ≤ v5 then some (some (.null), h) else (if mx_in v5 42 = true then mx_D (13, mm_X8_findWord, 22, [.ref 1, .int v1, .int v2, .ref 2000, .int v4, .int v5, v6], [.ref (1000 + v5.toNatClampNeg)]) h else none) := by
  refine Eq.trans (q_iload dX8_findWord_11 rfl) ?_
  refine Eq.trans (q_iload dX8_findWord_13 rfl) ?_
  refine Eq.trans (q_icmp_ge 47 dX8_findWord_15 rfl) (q_ite2 ?_ ?_)
  · refine Eq.trans (q_null dX8_findWord_47) ?_
    exact q_retA dX8_findWord_48 rfl rfl
  · refine Eq.trans (q_aload_n dX8_findWord_18 rfl rfl) ?_
    refine Eq.trans (q_iload dX8_findWord_19 rfl) ?_
    refine Eq.trans (q_ld (w := 4) (by decide) dX8_findWord_21 (mx_ld_2000)) (q_ite ?_)
    rfl
theorem e_X8_findWord_22 (v1 : Int32) (v2 : Int32) (v4 : Int32) (v5 : Int32) (v6 : Value) (s0 : Nat) (hw_s0 : 1000 ≤ s0 ∧ s0 < 1042) (h : mx_H)  : mx_D (13, mm_X8_findWord, 22, [.ref 1, .int v1, .int v2, .ref 2000, .int v4, .int v5, v6], [.ref s0]) h = (mx_C mm_X8_isSpelled [.ref 1, .ref (3000 + (s0 - 1000)), .int v1, .int v2] h).bind (fun o => mx_D (13, mm_X8_findWord, 35, [.ref 1, .int v1, .int v2, .ref 2000, .int v4, .int v5, .ref s0], o.1.toList ++ []) o.2) := by
  refine Eq.trans (q_astore (L' := [.ref 1, .int v1, .int v2, .ref 2000, .int v4, .int v5, .ref s0]) dX8_findWord_22 rfl (Nat.le_of_ble_eq_true rfl) rfl) ?_
  refine Eq.trans (q_aload_n dX8_findWord_24 rfl rfl) ?_
  refine Eq.trans (q_aload dX8_findWord_25 rfl rfl) ?_
  refine Eq.trans (q_getw dX8_findWord_27 mx_fld_8_54 hw_s0 rfl) ?_
  refine Eq.trans (q_iload_n dX8_findWord_30 rfl) ?_
  refine Eq.trans (q_iload_n dX8_findWord_31 rfl) ?_
  exact q_call0 (as := [.ref (3000 + (s0 - 1000)), .int v1, .int v2]) (rest := []) dX8_findWord_32 mx_inv_8_58 rfl rfl rfl ⟨Nat.le_of_ble_eq_true rfl, Nat.le_of_ble_eq_true rfl, (Nat.le_of_ble_eq_true rfl)⟩
theorem e_X8_findWord_35 (v1 : Int32) (v2 : Int32) (v4 : Int32) (v5 : Int32) (v6 : Option Nat) (s0 : Int32) (h : mx_H)  : mx_D (13, mm_X8_findWord, 35, [.ref 1, .int v1, .int v2, .ref 2000, .int v4, .int v5, mx_rf v6], [.int s0]) h = if s0 = 0 then mx_D (13, mm_X8_findWord, 11, [.ref 1, .int v1, .int v2, .ref 2000, .int v4, .int (v5 + 1), mx_rf v6], []) h else (some (some (mx_rf v6), h)) := by
  refine Eq.trans (q_if_eq 41 dX8_findWord_35 rfl) (q_ite2 ?_ ?_)
  · refine Eq.trans (q_iinc (x' := 1) (L' := [.ref 1, .int v1, .int v2, .ref 2000, .int v4, .int (v5 + 1), mx_rf v6]) dX8_findWord_41 rfl rfl rfl) ?_
    refine Eq.trans (q_goto 11 dX8_findWord_44 rfl) ?_
    rfl
  · refine Eq.trans (q_aload dX8_findWord_38 rfl (mx_ar_rf _)) ?_
    exact q_retA dX8_findWord_40 rfl (mx_ar_rf _)
theorem e_X8_isSpelled_0 (v1 : Nat) (ht_v1 : 3000 ≤ v1 ∧ v1 < 3042) (v2 : Int32) (v3 : Int32) (h : mx_H)  : mx_D (12, mm_X8_isSpelled, 0, [.ref 1, .ref v1, .int v2, .int v3, mx_junk], []) h = if (Int32.ofNat (mx_txt (v1 - 3000)).length) = (v3 - v2) then mx_D (12, mm_X8_isSpelled, 15, [.ref 1, .ref v1, .int v2, .int v3, .int v2], []) h else (some (some (.int 0), h)) := by
  refine Eq.trans (q_aload_n dX8_isSpelled_0 rfl rfl) ?_
  refine Eq.trans (q_slen dX8_isSpelled_1 mx_inv_8_62 ht_v1 (by simp)) ?_
  refine Eq.trans (q_iload_n dX8_isSpelled_4 rfl) ?_
  refine Eq.trans (q_iload_n dX8_isSpelled_5 rfl) ?_
  refine Eq.trans (q_isub dX8_isSpelled_6) ?_
  refine Eq.trans (q_icmp_eq 12 dX8_isSpelled_7 rfl) (q_ite2 ?_ ?_)
  · refine Eq.trans (q_iload_n dX8_isSpelled_12 rfl) ?_
    refine Eq.trans (q_istore (L' := [.ref 1, .ref v1, .int v2, .int v3, .int v2]) dX8_isSpelled_13 (Nat.le_of_ble_eq_true rfl) rfl) ?_
    rfl
  · refine Eq.trans (q_iconst (x := 0) dX8_isSpelled_10 rfl) ?_
    exact Eq.trans (q_ret dX8_isSpelled_11 rfl) (if_pos rfl)
theorem c_X8_isSpelled (v1 : Nat) (ht_v1 : 3000 ≤ v1 ∧ v1 < 3042) (v2 : Int32) (v3 : Int32) (h : mx_H) : mx_C mm_X8_isSpelled [.ref 1, .ref v1, .int v2, .int v3] h = mx_D (12, mm_X8_isSpelled, 0, [.ref 1, .ref v1, .int v2, .int v3, mx_junk], []) h := rfl
theorem e_X8_isSpelled_15 (v1 : Nat) (ht_v1 : 3000 ≤ v1 ∧ v1 < 3042) (v2 : Int32) (v3 : Int32) (v4 : Int32) (h : mx_H)  : mx_D (12, mm_X8_isSpelled, 15, [.ref 1, .ref v1, .int v2, .int v3, .int v4], []) h = if v3 ≤ v4 then some (some (.int 1), h) else (if mx_in v4 120 = true then if mx_in (v4 - v2) (mx_txt (v1 - 3000)).length = true then if (h.1 2 v4.toNatClampNeg) = (Int32.ofNat ((mx_txt (v1 - 3000)).getD (v4 - v2).toNatClampNeg 0)) then mx_D (12, mm_X8_isSpelled, 15, [.ref 1, .ref v1, .int v2, .int v3, .int (v4 + 1)], []) h else (some (some (.int 0), h)) else none else none) := by
  refine Eq.trans (q_iload dX8_isSpelled_15 rfl) ?_
  refine Eq.trans (q_iload_n dX8_isSpelled_17 rfl) ?_
  refine Eq.trans (q_icmp_ge 47 dX8_isSpelled_18 rfl) (q_ite2 ?_ ?_)
  · refine Eq.trans (q_iconst (x := 1) dX8_isSpelled_47 rfl) ?_
    exact Eq.trans (q_ret dX8_isSpelled_48 rfl) (if_pos rfl)
  · refine Eq.trans (q_aload_n dX8_isSpelled_21 rfl rfl) ?_
    refine Eq.trans (q_getf dX8_isSpelled_22 mx_fld_8_9 (gf_1_0 _)) ?_
    refine Eq.trans (q_iload dX8_isSpelled_25 rfl) ?_
    refine Eq.trans (q_ld (w := 1) (by decide) dX8_isSpelled_27 (al_2 _ _)) (q_ite ?_)
    refine Eq.trans (q_aload_n dX8_isSpelled_28 rfl rfl) ?_
    refine Eq.trans (q_iload dX8_isSpelled_29 rfl) ?_
    refine Eq.trans (q_iload_n dX8_isSpelled_31 rfl) ?_
    refine Eq.trans (q_isub dX8_isSpelled_32) ?_
    refine Eq.trans (q_schr dX8_isSpelled_33 mx_inv_8_67 ht_v1 (by simp)) (q_ite ?_)
    refine Eq.trans (q_icmp_eq 41 dX8_isSpelled_36 rfl) (q_ite2 ?_ ?_)
    · refine Eq.trans (q_iinc (x' := 1) (L' := [.ref 1, .ref v1, .int v2, .int v3, .int (v4 + 1)]) dX8_isSpelled_41 rfl rfl rfl) ?_
      refine Eq.trans (q_goto 15 dX8_isSpelled_44 rfl) ?_
      rfl
    · refine Eq.trans (q_iconst (x := 0) dX8_isSpelled_39 rfl) ?_
      exact Eq.trans (q_ret dX8_isSpelled_40 rfl) (if_pos rfl)
theorem e_X8_isOfSymbol_0 (v0 : Int32) (h : mx_H)  : mx_D (2, mm_X8_isOfSymbol, 0, [.int v0], []) h = (mx_C mm_X8_isLetter [.int v0] h).bind (fun o => mx_D (2, mm_X8_isOfSymbol, 4, [.int v0], o.1.toList ++ []) o.2) := by
  refine Eq.trans (q_iload_n dX8_isOfSymbol_0 rfl) ?_
  exact q_call1 (as := [.int v0]) (rest := []) dX8_isOfSymbol_1 mx_inv_8_71 rfl rfl ⟨Nat.le_of_ble_eq_true rfl, Nat.le_of_ble_eq_true rfl, (Nat.le_of_ble_eq_true rfl)⟩
theorem c_X8_isOfSymbol (v0 : Int32) (h : mx_H) : mx_C mm_X8_isOfSymbol [.int v0] h = mx_D (2, mm_X8_isOfSymbol, 0, [.int v0], []) h := rfl
theorem e_X8_isOfSymbol_4 (v0 : Int32) (s0 : Int32) (h : mx_H)  : mx_D (2, mm_X8_isOfSymbol, 4, [.int v0], [.int s0]) h = if s0 = 0 then (mx_C mm_X8_isDigit [.int v0] h).bind (fun o => mx_D (2, mm_X8_isOfSymbol, 11, [.int v0], o.1.toList ++ []) o.2) else (mx_D (2, mm_X8_isOfSymbol, 44, [.int v0], []) h) := by
  refine Eq.trans (q_if_ne 44 dX8_isOfSymbol_4 rfl) (q_ite2 ?_ ?_)
  · refine Eq.trans (q_iload_n dX8_isOfSymbol_7 rfl) ?_
    exact q_call1 (as := [.int v0]) (rest := []) dX8_isOfSymbol_8 mx_inv_8_74 rfl rfl ⟨Nat.le_of_ble_eq_true rfl, Nat.le_of_ble_eq_true rfl, (Nat.le_of_ble_eq_true rfl)⟩
  · rfl
theorem e_X8_isOfSymbol_11 (v0 : Int32) (s0 : Int32) (h : mx_H)  : mx_D (2, mm_X8_isOfSymbol, 11, [.int v0], [.int s0]) h = if s0 = 0 then if v0 = 45 then mx_D (2, mm_X8_isOfSymbol, 44, [.int v0], []) h else (if v0 = 95 then mx_D (2, mm_X8_isOfSymbol, 44, [.int v0], []) h else (if v0 = 61 then mx_D (2, mm_X8_isOfSymbol, 44, [.int v0], []) h else (if v0 = 62 then mx_D (2, mm_X8_isOfSymbol, 44, [.int v0], []) h else (if v0 = 35 then mx_D (2, mm_X8_isOfSymbol, 44, [.int v0], []) h else (mx_D (2, mm_X8_isOfSymbol, 49, [.int v0], [.int 0]) h))))) else (mx_D (2, mm_X8_isOfSymbol, 44, [.int v0], []) h) := by
  refine Eq.trans (q_if_ne 44 dX8_isOfSymbol_11 rfl) (q_ite2 ?_ ?_)
  · refine Eq.trans (q_iload_n dX8_isOfSymbol_14 rfl) ?_
    refine Eq.trans (q_bipush (x := 45) dX8_isOfSymbol_15 rfl) ?_
    refine Eq.trans (q_icmp_eq 44 dX8_isOfSymbol_17 rfl) (q_ite2 ?_ ?_)
    · rfl
    · refine Eq.trans (q_iload_n dX8_isOfSymbol_20 rfl) ?_
      refine Eq.trans (q_bipush (x := 95) dX8_isOfSymbol_21 rfl) ?_
      refine Eq.trans (q_icmp_eq 44 dX8_isOfSymbol_23 rfl) (q_ite2 ?_ ?_)
      · rfl
      · refine Eq.trans (q_iload_n dX8_isOfSymbol_26 rfl) ?_
        refine Eq.trans (q_bipush (x := 61) dX8_isOfSymbol_27 rfl) ?_
        refine Eq.trans (q_icmp_eq 44 dX8_isOfSymbol_29 rfl) (q_ite2 ?_ ?_)
        · rfl
        · refine Eq.trans (q_iload_n dX8_isOfSymbol_32 rfl) ?_
          refine Eq.trans (q_bipush (x := 62) dX8_isOfSymbol_33 rfl) ?_
          refine Eq.trans (q_icmp_eq 44 dX8_isOfSymbol_35 rfl) (q_ite2 ?_ ?_)
          · rfl
          · refine Eq.trans (q_iload_n dX8_isOfSymbol_38 rfl) ?_
            refine Eq.trans (q_bipush (x := 35) dX8_isOfSymbol_39 rfl) ?_
            refine Eq.trans (q_icmp_ne 48 dX8_isOfSymbol_41 rfl) (q_ite2 ?_ ?_)
            · rfl
            · refine Eq.trans (q_iconst (x := 0) dX8_isOfSymbol_48 rfl) ?_
              rfl
  · rfl
theorem e_X8_isOfSymbol_44 (v0 : Int32) (h : mx_H)  : mx_D (2, mm_X8_isOfSymbol, 44, [.int v0], []) h = mx_D (2, mm_X8_isOfSymbol, 49, [.int v0], [.int 1]) h := by
  refine Eq.trans (q_iconst (x := 1) dX8_isOfSymbol_44 rfl) ?_
  refine Eq.trans (q_goto 49 dX8_isOfSymbol_45 rfl) ?_
  rfl
theorem e_X8_isOfSymbol_49 (v0 : Int32) (s0 : Int32) (h : mx_H)  : mx_D (2, mm_X8_isOfSymbol, 49, [.int v0], [.int s0]) h = if narrow .boolean (.int s0) = .int s0 then some (some (.int s0), h) else none := by
  exact q_ret dX8_isOfSymbol_49 rfl
theorem e_X8_isLetter_0 (v0 : Int32) (h : mx_H)  : mx_D (1, mm_X8_isLetter, 0, [.int v0], []) h = if v0 < 97 then mx_D (1, mm_X8_isLetter, 12, [.int v0], []) h else (if v0 ≤ 122 then mx_D (1, mm_X8_isLetter, 24, [.int v0], []) h else (mx_D (1, mm_X8_isLetter, 12, [.int v0], []) h)) := by
  refine Eq.trans (q_iload_n dX8_isLetter_0 rfl) ?_
  refine Eq.trans (q_bipush (x := 97) dX8_isLetter_1 rfl) ?_
  refine Eq.trans (q_icmp_lt 12 dX8_isLetter_3 rfl) (q_ite2 ?_ ?_)
  · rfl
  · refine Eq.trans (q_iload_n dX8_isLetter_6 rfl) ?_
    refine Eq.trans (q_bipush (x := 122) dX8_isLetter_7 rfl) ?_
    refine Eq.trans (q_icmp_le 24 dX8_isLetter_9 rfl) (q_ite2 ?_ ?_)
    · rfl
    · rfl
theorem c_X8_isLetter (v0 : Int32) (h : mx_H) : mx_C mm_X8_isLetter [.int v0] h = mx_D (1, mm_X8_isLetter, 0, [.int v0], []) h := rfl
theorem e_X8_isLetter_12 (v0 : Int32) (h : mx_H)  : mx_D (1, mm_X8_isLetter, 12, [.int v0], []) h = if v0 < 65 then mx_D (1, mm_X8_isLetter, 28, [.int v0], []) h else (if 90 < v0 then mx_D (1, mm_X8_isLetter, 28, [.int v0], []) h else (mx_D (1, mm_X8_isLetter, 24, [.int v0], []) h)) := by
  refine Eq.trans (q_iload_n dX8_isLetter_12 rfl) ?_
  refine Eq.trans (q_bipush (x := 65) dX8_isLetter_13 rfl) ?_
  refine Eq.trans (q_icmp_lt 28 dX8_isLetter_15 rfl) (q_ite2 ?_ ?_)
  · rfl
  · refine Eq.trans (q_iload_n dX8_isLetter_18 rfl) ?_
    refine Eq.trans (q_bipush (x := 90) dX8_isLetter_19 rfl) ?_
    refine Eq.trans (q_icmp_gt 28 dX8_isLetter_21 rfl) (q_ite2 ?_ ?_)
    · rfl
    · rfl
theorem e_X8_isLetter_24 (v0 : Int32) (h : mx_H)  : mx_D (1, mm_X8_isLetter, 24, [.int v0], []) h = mx_D (1, mm_X8_isLetter, 29, [.int v0], [.int 1]) h := by
  refine Eq.trans (q_iconst (x := 1) dX8_isLetter_24 rfl) ?_
  refine Eq.trans (q_goto 29 dX8_isLetter_25 rfl) ?_
  rfl
theorem e_X8_isLetter_28 (v0 : Int32) (h : mx_H)  : mx_D (1, mm_X8_isLetter, 28, [.int v0], []) h = mx_D (1, mm_X8_isLetter, 29, [.int v0], [.int 0]) h := by
  refine Eq.trans (q_iconst (x := 0) dX8_isLetter_28 rfl) ?_
  rfl
theorem e_X8_isLetter_29 (v0 : Int32) (s0 : Int32) (h : mx_H)  : mx_D (1, mm_X8_isLetter, 29, [.int v0], [.int s0]) h = if narrow .boolean (.int s0) = .int s0 then some (some (.int s0), h) else none := by
  exact q_ret dX8_isLetter_29 rfl
theorem e_X8_isDigit_0 (v0 : Int32) (h : mx_H)  : mx_D (1, mm_X8_isDigit, 0, [.int v0], []) h = if v0 < 48 then mx_D (1, mm_X8_isDigit, 16, [.int v0], []) h else (if 57 < v0 then mx_D (1, mm_X8_isDigit, 16, [.int v0], []) h else (mx_D (1, mm_X8_isDigit, 17, [.int v0], [.int 1]) h)) := by
  refine Eq.trans (q_iload_n dX8_isDigit_0 rfl) ?_
  refine Eq.trans (q_bipush (x := 48) dX8_isDigit_1 rfl) ?_
  refine Eq.trans (q_icmp_lt 16 dX8_isDigit_3 rfl) (q_ite2 ?_ ?_)
  · rfl
  · refine Eq.trans (q_iload_n dX8_isDigit_6 rfl) ?_
    refine Eq.trans (q_bipush (x := 57) dX8_isDigit_7 rfl) ?_
    refine Eq.trans (q_icmp_gt 16 dX8_isDigit_9 rfl) (q_ite2 ?_ ?_)
    · rfl
    · refine Eq.trans (q_iconst (x := 1) dX8_isDigit_12 rfl) ?_
      refine Eq.trans (q_goto 17 dX8_isDigit_13 rfl) ?_
      rfl
theorem c_X8_isDigit (v0 : Int32) (h : mx_H) : mx_C mm_X8_isDigit [.int v0] h = mx_D (1, mm_X8_isDigit, 0, [.int v0], []) h := rfl
theorem e_X8_isDigit_16 (v0 : Int32) (h : mx_H)  : mx_D (1, mm_X8_isDigit, 16, [.int v0], []) h = mx_D (1, mm_X8_isDigit, 17, [.int v0], [.int 0]) h := by
  refine Eq.trans (q_iconst (x := 0) dX8_isDigit_16 rfl) ?_
  rfl
theorem e_X8_isDigit_17 (v0 : Int32) (s0 : Int32) (h : mx_H)  : mx_D (1, mm_X8_isDigit, 17, [.int v0], [.int s0]) h = if narrow .boolean (.int s0) = .int s0 then some (some (.int s0), h) else none := by
  exact q_ret dX8_isDigit_17 rfl
theorem e_X8_hasToken_0 (v1 : Int32) (h : mx_H)  : mx_D (1, mm_X8_hasToken, 0, [.ref 1, .int v1], []) h = if v1 < 0 then mx_D (1, mm_X8_hasToken, 16, [.ref 1, .int v1], []) h else (if (h.1 1 5) ≤ v1 then mx_D (1, mm_X8_hasToken, 16, [.ref 1, .int v1], []) h else (mx_D (1, mm_X8_hasToken, 17, [.ref 1, .int v1], [.int 1]) h)) := by
  refine Eq.trans (q_iload_n dX8_hasToken_0 rfl) ?_
  refine Eq.trans (q_if_lt 16 dX8_hasToken_1 rfl) (q_ite2 ?_ ?_)
  · rfl
  · refine Eq.trans (q_iload_n dX8_hasToken_4 rfl) ?_
    refine Eq.trans (q_aload_n dX8_hasToken_5 rfl rfl) ?_
    refine Eq.trans (q_getf dX8_hasToken_6 mx_fld_8_36 (gf_1_5 _)) ?_
    refine Eq.trans (q_icmp_ge 16 dX8_hasToken_9 rfl) (q_ite2 ?_ ?_)
    · rfl
    · refine Eq.trans (q_iconst (x := 1) dX8_hasToken_12 rfl) ?_
      refine Eq.trans (q_goto 17 dX8_hasToken_13 rfl) ?_
      rfl
theorem c_X8_hasToken (v1 : Int32) (h : mx_H) : mx_C mm_X8_hasToken [.ref 1, .int v1] h = mx_D (1, mm_X8_hasToken, 0, [.ref 1, .int v1], []) h := rfl
theorem e_X8_hasToken_16 (v1 : Int32) (h : mx_H)  : mx_D (1, mm_X8_hasToken, 16, [.ref 1, .int v1], []) h = mx_D (1, mm_X8_hasToken, 17, [.ref 1, .int v1], [.int 0]) h := by
  refine Eq.trans (q_iconst (x := 0) dX8_hasToken_16 rfl) ?_
  rfl
theorem e_X8_hasToken_17 (v1 : Int32) (s0 : Int32) (h : mx_H)  : mx_D (1, mm_X8_hasToken, 17, [.ref 1, .int v1], [.int s0]) h = if narrow .boolean (.int s0) = .int s0 then some (some (.int s0), h) else none := by
  exact q_ret dX8_hasToken_17 rfl
theorem e_X8_sizeOf_0 (v1 : Int32) (h : mx_H)  : mx_D (2, mm_X8_sizeOf, 0, [.ref 1, .int v1], []) h = (mx_C mm_X8_hasToken [.ref 1, .int v1] h).bind (fun o => mx_D (2, mm_X8_sizeOf, 5, [.ref 1, .int v1], o.1.toList ++ []) o.2) := by
  refine Eq.trans (q_aload_n dX8_sizeOf_0 rfl rfl) ?_
  refine Eq.trans (q_iload_n dX8_sizeOf_1 rfl) ?_
  exact q_call0 (as := [.int v1]) (rest := []) dX8_sizeOf_2 mx_inv_8_77 rfl rfl rfl ⟨Nat.le_of_ble_eq_true rfl, Nat.le_of_ble_eq_true rfl, (Nat.le_of_ble_eq_true rfl)⟩
theorem c_X8_sizeOf (v1 : Int32) (h : mx_H) : mx_C mm_X8_sizeOf [.ref 1, .int v1] h = mx_D (2, mm_X8_sizeOf, 0, [.ref 1, .int v1], []) h := rfl
theorem e_X8_sizeOf_5 (v1 : Int32) (s0 : Int32) (h : mx_H)  : mx_D (2, mm_X8_sizeOf, 5, [.ref 1, .int v1], [.int s0]) h = if s0 = 0 then mx_D (2, mm_X8_sizeOf, 25, [.ref 1, .int v1], [.int 0]) h else (if mx_in v1 121 = true then if mx_in v1 121 = true then mx_D (2, mm_X8_sizeOf, 25, [.ref 1, .int v1], [.int ((h.1 4 v1.toNatClampNeg) - (h.1 3 v1.toNatClampNeg))]) h else none else none) := by
  refine Eq.trans (q_if_eq 24 dX8_sizeOf_5 rfl) (q_ite2 ?_ ?_)
  · refine Eq.trans (q_iconst (x := 0) dX8_sizeOf_24 rfl) ?_
    rfl
  · refine Eq.trans (q_aload_n dX8_sizeOf_8 rfl rfl) ?_
    refine Eq.trans (q_getf dX8_sizeOf_9 mx_fld_8_19 (gf_1_3 _)) ?_
    refine Eq.trans (q_iload_n dX8_sizeOf_12 rfl) ?_
    refine Eq.trans (q_ld (w := 0) (by decide) dX8_sizeOf_13 (al_4 _ _)) (q_ite ?_)
    refine Eq.trans (q_aload_n dX8_sizeOf_14 rfl rfl) ?_
    refine Eq.trans (q_getf dX8_sizeOf_15 mx_fld_8_15 (gf_1_2 _)) ?_
    refine Eq.trans (q_iload_n dX8_sizeOf_18 rfl) ?_
    refine Eq.trans (q_ld (w := 0) (by decide) dX8_sizeOf_19 (al_3 _ _)) (q_ite ?_)
    refine Eq.trans (q_isub dX8_sizeOf_20) ?_
    refine Eq.trans (q_goto 25 dX8_sizeOf_21 rfl) ?_
    rfl
theorem e_X8_sizeOf_25 (v1 : Int32) (s0 : Int32) (h : mx_H)  : mx_D (2, mm_X8_sizeOf, 25, [.ref 1, .int v1], [.int s0]) h = some (some (.int s0), h) := by
  exact q_retI dX8_sizeOf_25 rfl
theorem e_X8_start_0 (v1 : Int32) (h : mx_H)  : mx_D (2, mm_X8_start, 0, [.ref 1, .int v1], []) h = (mx_C mm_X8_hasToken [.ref 1, .int v1] h).bind (fun o => mx_D (2, mm_X8_start, 5, [.ref 1, .int v1], o.1.toList ++ []) o.2) := by
  refine Eq.trans (q_aload_n dX8_start_0 rfl rfl) ?_
  refine Eq.trans (q_iload_n dX8_start_1 rfl) ?_
  exact q_call0 (as := [.int v1]) (rest := []) dX8_start_2 mx_inv_8_77 rfl rfl rfl ⟨Nat.le_of_ble_eq_true rfl, Nat.le_of_ble_eq_true rfl, (Nat.le_of_ble_eq_true rfl)⟩
theorem c_X8_start (v1 : Int32) (h : mx_H) : mx_C mm_X8_start [.ref 1, .int v1] h = mx_D (2, mm_X8_start, 0, [.ref 1, .int v1], []) h := rfl
theorem e_X8_start_5 (v1 : Int32) (s0 : Int32) (h : mx_H)  : mx_D (2, mm_X8_start, 5, [.ref 1, .int v1], [.int s0]) h = if s0 = 0 then mx_D (2, mm_X8_start, 21, [.ref 1, .int v1], [.int (h.1 1 1)]) h else (if mx_in v1 121 = true then mx_D (2, mm_X8_start, 21, [.ref 1, .int v1], [.int (h.1 3 v1.toNatClampNeg)]) h else none) := by
  refine Eq.trans (q_if_eq 17 dX8_start_5 rfl) (q_ite2 ?_ ?_)
  · refine Eq.trans (q_aload_n dX8_start_17 rfl rfl) ?_
    refine Eq.trans (q_getf dX8_start_18 mx_fld_8_28 (gf_1_1 _)) ?_
    rfl
  · refine Eq.trans (q_aload_n dX8_start_8 rfl rfl) ?_
    refine Eq.trans (q_getf dX8_start_9 mx_fld_8_15 (gf_1_2 _)) ?_
    refine Eq.trans (q_iload_n dX8_start_12 rfl) ?_
    refine Eq.trans (q_ld (w := 0) (by decide) dX8_start_13 (al_3 _ _)) (q_ite ?_)
    refine Eq.trans (q_goto 21 dX8_start_14 rfl) ?_
    rfl
theorem e_X8_start_21 (v1 : Int32) (s0 : Int32) (h : mx_H)  : mx_D (2, mm_X8_start, 21, [.ref 1, .int v1], [.int s0]) h = some (some (.int s0), h) := by
  exact q_retI dX8_start_21 rfl
theorem e_X8_isBracket_0 (v1 : Int32) (v2 : Int32) (h : mx_H)  : mx_D (1, mm_X8_isBracket, 0, [.ref 1, .int v1, .int v2], []) h = if v1 < 0 then mx_D (1, mm_X8_isBracket, 44, [.ref 1, .int v1, .int v2], []) h else (if (h.1 1 5) ≤ v1 then mx_D (1, mm_X8_isBracket, 44, [.ref 1, .int v1, .int v2], []) h else (if mx_in v1 121 = true then if (h.1 1 1) ≤ (h.1 3 v1.toNatClampNeg) then mx_D (1, mm_X8_isBracket, 44, [.ref 1, .int v1, .int v2], []) h else (if mx_in v1 121 = true then if mx_in (h.1 3 v1.toNatClampNeg) 120 = true then if (h.1 2 ((h.1 3 v1.toNatClampNeg).toNatClampNeg)) = v2 then mx_D (1, mm_X8_isBracket, 45, [.ref 1, .int v1, .int v2], [.int 1]) h else (mx_D (1, mm_X8_isBracket, 44, [.ref 1, .int v1, .int v2], []) h) else none else none) else none)) := by
  refine Eq.trans (q_iload_n dX8_isBracket_0 rfl) ?_
  refine Eq.trans (q_if_lt 44 dX8_isBracket_1 rfl) (q_ite2 ?_ ?_)
  · rfl
  · refine Eq.trans (q_iload_n dX8_isBracket_4 rfl) ?_
    refine Eq.trans (q_aload_n dX8_isBracket_5 rfl rfl) ?_
    refine Eq.trans (q_getf dX8_isBracket_6 mx_fld_8_36 (gf_1_5 _)) ?_
    refine Eq.trans (q_icmp_ge 44 dX8_isBracket_9 rfl) (q_ite2 ?_ ?_)
    · rfl
    · refine Eq.trans (q_aload_n dX8_isBracket_12 rfl rfl) ?_
      refine Eq.trans (q_getf dX8_isBracket_13 mx_fld_8_15 (gf_1_2 _)) ?_
      refine Eq.trans (q_iload_n dX8_isBracket_16 rfl) ?_
      refine Eq.trans (q_ld (w := 0) (by decide) dX8_isBracket_17 (al_3 _ _)) (q_ite ?_)
      refine Eq.trans (q_aload_n dX8_isBracket_18 rfl rfl) ?_
      refine Eq.trans (q_getf dX8_isBracket_19 mx_fld_8_28 (gf_1_1 _)) ?_
      refine Eq.trans (q_icmp_ge 44 dX8_isBracket_22 rfl) (q_ite2 ?_ ?_)
      · rfl
      · refine Eq.trans (q_aload_n dX8_isBracket_25 rfl rfl) ?_
        refine Eq.trans (q_getf dX8_isBracket_26 mx_fld_8_9 (gf_1_0 _)) ?_
        refine Eq.trans (q_aload_n dX8_isBracket_29 rfl rfl) ?_
        refine Eq.trans (q_getf dX8_isBracket_30 mx_fld_8_15 (gf_1_2 _)) ?_
        refine Eq.trans (q_iload_n dX8_isBracket_33 rfl) ?_
        refine Eq.trans (q_ld (w := 0) (by decide) dX8_isBracket_34 (al_3 _ _)) (q_ite ?_)
        refine Eq.trans (q_ld (w := 1) (by decide) dX8_isBracket_35 (al_2 _ _)) (q_ite ?_)
        refine Eq.trans (q_iload_n dX8_isBracket_36 rfl) ?_
        refine Eq.trans (q_icmp_ne 44 dX8_isBracket_37 rfl) (q_ite2 ?_ ?_)
        · refine Eq.trans (q_iconst (x := 1) dX8_isBracket_40 rfl) ?_
          refine Eq.trans (q_goto 45 dX8_isBracket_41 rfl) ?_
          rfl
        · rfl
theorem c_X8_isBracket (v1 : Int32) (v2 : Int32) (h : mx_H) : mx_C mm_X8_isBracket [.ref 1, .int v1, .int v2] h = mx_D (1, mm_X8_isBracket, 0, [.ref 1, .int v1, .int v2], []) h := rfl
theorem e_X8_isBracket_44 (v1 : Int32) (v2 : Int32) (h : mx_H)  : mx_D (1, mm_X8_isBracket, 44, [.ref 1, .int v1, .int v2], []) h = mx_D (1, mm_X8_isBracket, 45, [.ref 1, .int v1, .int v2], [.int 0]) h := by
  refine Eq.trans (q_iconst (x := 0) dX8_isBracket_44 rfl) ?_
  rfl
theorem e_X8_isBracket_45 (v1 : Int32) (v2 : Int32) (s0 : Int32) (h : mx_H)  : mx_D (1, mm_X8_isBracket, 45, [.ref 1, .int v1, .int v2], [.int s0]) h = if narrow .boolean (.int s0) = .int s0 then some (some (.int s0), h) else none := by
  exact q_ret dX8_isBracket_45 rfl
theorem e_X8_isEnd_0 (v1 : Int32) (h : mx_H)  : mx_D (3, mm_X8_isEnd, 0, [.ref 1, .int v1], []) h = (mx_C mm_X8_sizeOf [.ref 1, .int v1] h).bind (fun o => mx_D (3, mm_X8_isEnd, 5, [.ref 1, .int v1], o.1.toList ++ []) o.2) := by
  refine Eq.trans (q_aload_n dX8_isEnd_0 rfl rfl) ?_
  refine Eq.trans (q_iload_n dX8_isEnd_1 rfl) ?_
  exact q_call0 (as := [.int v1]) (rest := []) dX8_isEnd_2 mx_inv_8_81 rfl rfl rfl ⟨Nat.le_of_ble_eq_true rfl, Nat.le_of_ble_eq_true rfl, (Nat.le_of_ble_eq_true rfl)⟩
theorem c_X8_isEnd (v1 : Int32) (h : mx_H) : mx_C mm_X8_isEnd [.ref 1, .int v1] h = mx_D (3, mm_X8_isEnd, 0, [.ref 1, .int v1], []) h := rfl
theorem e_X8_isEnd_5 (v1 : Int32) (s0 : Int32) (h : mx_H)  : mx_D (3, mm_X8_isEnd, 5, [.ref 1, .int v1], [.int s0]) h = if s0 = 0 then mx_D (3, mm_X8_isEnd, 13, [.ref 1, .int v1], [.int 1]) h else (mx_D (3, mm_X8_isEnd, 13, [.ref 1, .int v1], [.int 0]) h) := by
  refine Eq.trans (q_if_ne 12 dX8_isEnd_5 rfl) (q_ite2 ?_ ?_)
  · refine Eq.trans (q_iconst (x := 1) dX8_isEnd_8 rfl) ?_
    refine Eq.trans (q_goto 13 dX8_isEnd_9 rfl) ?_
    rfl
  · refine Eq.trans (q_iconst (x := 0) dX8_isEnd_12 rfl) ?_
    rfl
theorem e_X8_isEnd_13 (v1 : Int32) (s0 : Int32) (h : mx_H)  : mx_D (3, mm_X8_isEnd, 13, [.ref 1, .int v1], [.int s0]) h = if narrow .boolean (.int s0) = .int s0 then some (some (.int s0), h) else none := by
  exact q_ret dX8_isEnd_13 rfl
theorem e_X8_wordAt_0 (v1 : Int32) (h : mx_H)  : mx_D (2, mm_X8_wordAt, 0, [.ref 1, .int v1], []) h = (mx_C mm_X8_hasToken [.ref 1, .int v1] h).bind (fun o => mx_D (2, mm_X8_wordAt, 5, [.ref 1, .int v1], o.1.toList ++ []) o.2) := by
  refine Eq.trans (q_aload_n dX8_wordAt_0 rfl rfl) ?_
  refine Eq.trans (q_iload_n dX8_wordAt_1 rfl) ?_
  exact q_call0 (as := [.int v1]) (rest := []) dX8_wordAt_2 mx_inv_8_77 rfl rfl rfl ⟨Nat.le_of_ble_eq_true rfl, Nat.le_of_ble_eq_true rfl, (Nat.le_of_ble_eq_true rfl)⟩
