theorem e_X6_forgetOrder_0  (h : mx_H)  : mx_D (1, mm_X6_forgetOrder, 0, [.ref 33], []) h = some (none, ((mx_u h.1 33 3 0), h.2.1, h.2.2)) := by
  refine Eq.trans (q_aload_n dX6_forgetOrder_0 rfl rfl) ?_
  refine Eq.trans (q_iconst (x := 0) dX6_forgetOrder_1 rfl) ?_
  refine Eq.trans (q_putf dX6_forgetOrder_2 mx_fld_6_45 (pf_33_3 _ _)) ?_
  exact q_retV dX6_forgetOrder_5 rfl
theorem c_X6_forgetOrder  (h : mx_H) : mx_C mm_X6_forgetOrder [.ref 33] h = mx_D (1, mm_X6_forgetOrder, 0, [.ref 33], []) h := rfl
theorem e_X6_decideNext_0 (v1 : Int32) (h : mx_H)  : mx_D (1, mm_X6_decideNext, 0, [.ref 33, .int v1], []) h = if 8 ≤ (h.1 33 3) then mx_D (1, mm_X6_decideNext, 40, [.ref 33, .int v1], []) h else (if v1 < 1 then mx_D (1, mm_X6_decideNext, 40, [.ref 33, .int v1], []) h else (if 9 ≤ v1 then mx_D (1, mm_X6_decideNext, 40, [.ref 33, .int v1], []) h else (if mx_in (h.1 33 3) 8 = true then mx_D (1, mm_X6_decideNext, 40, [.ref 33, .int v1], []) ((mx_u (mx_u h.1 39 ((h.1 33 3).toNatClampNeg) v1) 33 3 (((mx_u h.1 39 ((h.1 33 3).toNatClampNeg) v1) 33 3) + 1)), h.2.1, h.2.2) else none))) := by
  refine Eq.trans (q_aload_n dX6_decideNext_0 rfl rfl) ?_
  refine Eq.trans (q_getf dX6_decideNext_1 mx_fld_6_45 (gf_33_3 _)) ?_
  refine Eq.trans (q_bipush (x := 8) dX6_decideNext_4 rfl) ?_
  refine Eq.trans (q_icmp_ge 40 dX6_decideNext_6 rfl) (q_ite2 ?_ ?_)
  · rfl
  · refine Eq.trans (q_iload_n dX6_decideNext_9 rfl) ?_
    refine Eq.trans (q_iconst (x := 1) dX6_decideNext_10 rfl) ?_
    refine Eq.trans (q_icmp_lt 40 dX6_decideNext_11 rfl) (q_ite2 ?_ ?_)
    · rfl
    · refine Eq.trans (q_iload_n dX6_decideNext_14 rfl) ?_
      refine Eq.trans (q_bipush (x := 9) dX6_decideNext_15 rfl) ?_
      refine Eq.trans (q_icmp_ge 40 dX6_decideNext_17 rfl) (q_ite2 ?_ ?_)
      · rfl
      · refine Eq.trans (q_aload_n dX6_decideNext_20 rfl rfl) ?_
        refine Eq.trans (q_getf dX6_decideNext_21 mx_fld_6_18 (gf_33_2 _)) ?_
        refine Eq.trans (q_aload_n dX6_decideNext_24 rfl rfl) ?_
        refine Eq.trans (q_getf dX6_decideNext_25 mx_fld_6_45 (gf_33_3 _)) ?_
        refine Eq.trans (q_iload_n dX6_decideNext_28 rfl) ?_
        refine Eq.trans (q_st (w := 0) (by decide) dX6_decideNext_29 (as_39 _ _ _)) (q_ite ?_)
        refine Eq.trans (q_aload_n dX6_decideNext_30 rfl rfl) ?_
        refine Eq.trans (q_dup dX6_decideNext_31 rfl) ?_
        refine Eq.trans (q_getf dX6_decideNext_32 mx_fld_6_45 (gf_33_3 _)) ?_
        refine Eq.trans (q_iconst (x := 1) dX6_decideNext_35 rfl) ?_
        refine Eq.trans (q_iadd dX6_decideNext_36) ?_
        refine Eq.trans (q_putf dX6_decideNext_37 mx_fld_6_45 (pf_33_3 _ _)) ?_
        rfl
theorem c_X6_decideNext (v1 : Int32) (h : mx_H) : mx_C mm_X6_decideNext [.ref 33, .int v1] h = mx_D (1, mm_X6_decideNext, 0, [.ref 33, .int v1], []) h := rfl
theorem e_X6_decideNext_40 (v1 : Int32) (h : mx_H)  : mx_D (1, mm_X6_decideNext, 40, [.ref 33, .int v1], []) h = some (none, h) := by
  exact q_retV dX6_decideNext_40 rfl
theorem e_X6_inputs_0  (h : mx_H)  : mx_D (1, mm_X6_inputs, 0, [.ref 33, mx_junk, mx_junk], []) h = mx_D (1, mm_X6_inputs, 4, [.ref 33, .int 0, .int 0], []) h := by
  refine Eq.trans (q_iconst (x := 0) dX6_inputs_0 rfl) ?_
  refine Eq.trans (q_istore_n (L' := [.ref 33, .int 0, mx_junk]) dX6_inputs_1 (Nat.le_of_ble_eq_true rfl) rfl) ?_
  refine Eq.trans (q_iconst (x := 0) dX6_inputs_2 rfl) ?_
  refine Eq.trans (q_istore_n (L' := [.ref 33, .int 0, .int 0]) dX6_inputs_3 (Nat.le_of_ble_eq_true rfl) rfl) ?_
  rfl
theorem c_X6_inputs  (h : mx_H) : mx_C mm_X6_inputs [.ref 33] h = mx_D (1, mm_X6_inputs, 0, [.ref 33, mx_junk, mx_junk], []) h := rfl
theorem e_X6_inputs_4 (v1 : Int32) (v2 : Int32) (h : mx_H)  : mx_D (1, mm_X6_inputs, 4, [.ref 33, .int v1, .int v2], []) h = if 8 ≤ v2 then some (some (.int v1), h) else (if mx_in (1 + v2) 1065 = true then if (h.1 41 ((1 + v2).toNatClampNeg)) = 1 then mx_D (1, mm_X6_inputs, 28, [.ref 33, .int (v1 ||| (1 <<< (v2 &&& 31))), .int v2], []) h else (mx_D (1, mm_X6_inputs, 28, [.ref 33, .int v1, .int v2], []) h) else none) := by
  refine Eq.trans (q_iload_n dX6_inputs_4 rfl) ?_
  refine Eq.trans (q_bipush (x := 8) dX6_inputs_5 rfl) ?_
  refine Eq.trans (q_icmp_ge 34 dX6_inputs_7 rfl) (q_ite2 ?_ ?_)
  · refine Eq.trans (q_iload_n dX6_inputs_34 rfl) ?_
    exact q_retI dX6_inputs_35 rfl
  · refine Eq.trans (q_aload_n dX6_inputs_10 rfl rfl) ?_
    refine Eq.trans (q_getf dX6_inputs_11 mx_fld_6_26 (gf_33_5 _)) ?_
    refine Eq.trans (q_iconst (x := 1) dX6_inputs_14 rfl) ?_
    refine Eq.trans (q_iload_n dX6_inputs_15 rfl) ?_
    refine Eq.trans (q_iadd dX6_inputs_16) ?_
    refine Eq.trans (q_ld (w := 0) (by decide) dX6_inputs_17 (al_41 _ _)) (q_ite ?_)
    refine Eq.trans (q_iconst (x := 1) dX6_inputs_18 rfl) ?_
    refine Eq.trans (q_icmp_ne 28 dX6_inputs_19 rfl) (q_ite2 ?_ ?_)
    · refine Eq.trans (q_iload_n dX6_inputs_22 rfl) ?_
      refine Eq.trans (q_iconst (x := 1) dX6_inputs_23 rfl) ?_
      refine Eq.trans (q_iload_n dX6_inputs_24 rfl) ?_
      refine Eq.trans (q_ishl dX6_inputs_25) ?_
      refine Eq.trans (q_ior dX6_inputs_26) ?_
      refine Eq.trans (q_istore_n (L' := [.ref 33, .int (v1 ||| (1 <<< (v2 &&& 31))), .int v2]) dX6_inputs_27 (Nat.le_of_ble_eq_true rfl) rfl) ?_
      rfl
    · rfl
theorem e_X6_inputs_28 (v1 : Int32) (v2 : Int32) (h : mx_H)  : mx_D (1, mm_X6_inputs, 28, [.ref 33, .int v1, .int v2], []) h = mx_D (1, mm_X6_inputs, 4, [.ref 33, .int v1, .int (v2 + 1)], []) h := by
  refine Eq.trans (q_iinc (x' := 1) (L' := [.ref 33, .int v1, .int (v2 + 1)]) dX6_inputs_28 rfl rfl rfl) ?_
  refine Eq.trans (q_goto 4 dX6_inputs_31 rfl) ?_
  rfl
theorem e_X6_canHold_0 (v2 : Int32) (h : mx_H)  : mx_D (14, mm_X6_canHold, 0, [.ref 33, .ref 46, .int v2, mx_junk, mx_junk], []) h = (mx_C mm_X6_begin [.ref 33] h).bind (fun o => mx_D (14, mm_X6_canHold, 4, [.ref 33, .ref 46, .int v2, mx_junk, mx_junk], o.1.toList ++ []) o.2) := by
  refine Eq.trans (q_aload_n dX6_canHold_0 rfl rfl) ?_
  exact q_call0 (as := []) (rest := []) dX6_canHold_1 mx_inv_6_49 rfl rfl rfl ⟨Nat.le_of_ble_eq_true rfl, Nat.le_of_ble_eq_true rfl, (Nat.le_of_ble_eq_true rfl)⟩
theorem c_X6_canHold (v2 : Int32) (h : mx_H) : mx_C mm_X6_canHold [.ref 33, .ref 46, .int v2] h = mx_D (14, mm_X6_canHold, 0, [.ref 33, .ref 46, .int v2, mx_junk, mx_junk], []) h := rfl
theorem e_X6_canHold_4 (v2 : Int32) (h : mx_H)  : mx_D (14, mm_X6_canHold, 4, [.ref 33, .ref 46, .int v2, mx_junk, mx_junk], []) h = mx_D (14, mm_X6_canHold, 6, [.ref 33, .ref 46, .int v2, .int 0, mx_junk], []) h := by
  refine Eq.trans (q_iconst (x := 0) dX6_canHold_4 rfl) ?_
  refine Eq.trans (q_istore_n (L' := [.ref 33, .ref 46, .int v2, .int 0, mx_junk]) dX6_canHold_5 (Nat.le_of_ble_eq_true rfl) rfl) ?_
  rfl
theorem e_X6_canHold_6 (v2 : Int32) (v3 : Int32) (v4 : Value) (h : mx_H)  : mx_D (14, mm_X6_canHold, 6, [.ref 33, .ref 46, .int v2, .int v3, v4], []) h = if 12 ≤ v3 then (mx_C mm_X6_loadMarked [.ref 33] h).bind (fun o => mx_D (14, mm_X6_canHold, 72, [.ref 33, .ref 46, .int v2, .int v3, v4], o.1.toList ++ []) o.2) else (if ((v2 >>> (v3 &&& 31)) &&& 1) = 1 then if mx_in v3 12 = true then (mx_C mm_X6_truthOf [.ref 33, .int (h.1 46 v3.toNatClampNeg)] h).bind (fun o => mx_D (14, mm_X6_canHold, 28, [.ref 33, .ref 46, .int v2, .int v3, v4], o.1.toList ++ []) o.2) else none else (mx_D (14, mm_X6_canHold, 62, [.ref 33, .ref 46, .int v2, .int v3, v4], []) h)) := by
  refine Eq.trans (q_iload_n dX6_canHold_6 rfl) ?_
  refine Eq.trans (q_aload_n dX6_canHold_7 rfl rfl) ?_
  refine Eq.trans (q_len (x := 12) dX6_canHold_8 rfl) ?_
  refine Eq.trans (q_icmp_ge 68 dX6_canHold_9 rfl) (q_ite2 ?_ ?_)
  · refine Eq.trans (q_aload_n dX6_canHold_68 rfl rfl) ?_
    exact q_call0 (as := []) (rest := []) dX6_canHold_69 mx_inv_6_60 rfl rfl rfl ⟨Nat.le_of_ble_eq_true rfl, Nat.le_of_ble_eq_true rfl, (Nat.le_of_ble_eq_true rfl)⟩
  · refine Eq.trans (q_iload_n dX6_canHold_12 rfl) ?_
    refine Eq.trans (q_iload_n dX6_canHold_13 rfl) ?_
    refine Eq.trans (q_ishr dX6_canHold_14) ?_
    refine Eq.trans (q_iconst (x := 1) dX6_canHold_15 rfl) ?_
    refine Eq.trans (q_iand dX6_canHold_16) ?_
    refine Eq.trans (q_iconst (x := 1) dX6_canHold_17 rfl) ?_
    refine Eq.trans (q_icmp_ne 62 dX6_canHold_18 rfl) (q_ite2 ?_ ?_)
    · refine Eq.trans (q_aload_n dX6_canHold_21 rfl rfl) ?_
      refine Eq.trans (q_aload_n dX6_canHold_22 rfl rfl) ?_
      refine Eq.trans (q_iload_n dX6_canHold_23 rfl) ?_
      refine Eq.trans (q_ld (w := 0) (by decide) dX6_canHold_24 (al_46 _ _)) (q_ite ?_)
      exact q_call0 (as := [.int (h.1 46 v3.toNatClampNeg)]) (rest := []) dX6_canHold_25 mx_inv_6_52 rfl rfl rfl ⟨Nat.le_of_ble_eq_true rfl, Nat.le_of_ble_eq_true rfl, (Nat.le_of_ble_eq_true rfl)⟩
    · rfl
theorem e_X6_canHold_28 (v2 : Int32) (v3 : Int32) (v4 : Value) (s0 : Int32) (h : mx_H)  : mx_D (14, mm_X6_canHold, 28, [.ref 33, .ref 46, .int v2, .int v3, v4], [.int s0]) h = if s0 = 0 then some (some (.int 0), h) else (if s0 = 2 then if mx_in v3 12 = true then (mx_C mm_X6_assign [.ref 33, .int (h.1 46 v3.toNatClampNeg), .int ((-1))] h).bind (fun o => mx_D (14, mm_X6_canHold, 51, [.ref 33, .ref 46, .int v2, .int v3, .int s0], o.1.toList ++ []) o.2) else none else (mx_D (14, mm_X6_canHold, 62, [.ref 33, .ref 46, .int v2, .int v3, .int s0], []) h)) := by
  refine Eq.trans (q_istore (L' := [.ref 33, .ref 46, .int v2, .int v3, .int s0]) dX6_canHold_28 (Nat.le_of_ble_eq_true rfl) rfl) ?_
  refine Eq.trans (q_iload dX6_canHold_30 rfl) ?_
  refine Eq.trans (q_if_ne 37 dX6_canHold_32 rfl) (q_ite2 ?_ ?_)
  · refine Eq.trans (q_iconst (x := 0) dX6_canHold_35 rfl) ?_
    exact Eq.trans (q_ret dX6_canHold_36 rfl) (if_pos rfl)
  · refine Eq.trans (q_iload dX6_canHold_37 rfl) ?_
    refine Eq.trans (q_iconst (x := 2) dX6_canHold_39 rfl) ?_
    refine Eq.trans (q_icmp_ne 62 dX6_canHold_40 rfl) (q_ite2 ?_ ?_)
    · refine Eq.trans (q_aload_n dX6_canHold_43 rfl rfl) ?_
      refine Eq.trans (q_aload_n dX6_canHold_44 rfl rfl) ?_
      refine Eq.trans (q_iload_n dX6_canHold_45 rfl) ?_
      refine Eq.trans (q_ld (w := 0) (by decide) dX6_canHold_46 (al_46 _ _)) (q_ite ?_)
      refine Eq.trans (q_iconst (x := (-1)) dX6_canHold_47 rfl) ?_
      exact q_call0 (as := [.int (h.1 46 v3.toNatClampNeg), .int ((-1))]) (rest := []) dX6_canHold_48 mx_inv_6_56 rfl rfl rfl ⟨Nat.le_of_ble_eq_true rfl, Nat.le_of_ble_eq_true rfl, (Nat.le_of_ble_eq_true rfl)⟩
    · rfl
theorem e_X6_canHold_51 (v2 : Int32) (v3 : Int32) (v4 : Int32) (h : mx_H)  : mx_D (14, mm_X6_canHold, 51, [.ref 33, .ref 46, .int v2, .int v3, .int v4], []) h = if mx_in v3 12 = true then if mx_in ((h.1 46 v3.toNatClampNeg) >>> (1 &&& 31)) 1065 = true then mx_D (14, mm_X6_canHold, 62, [.ref 33, .ref 46, .int v2, .int v3, .int v4], []) ((mx_u h.1 40 (((h.1 46 v3.toNatClampNeg) >>> (1 &&& 31)).toNatClampNeg) (vp_nar .boolean 1)), h.2.1, h.2.2) else none else none := by
  refine Eq.trans (q_aload_n dX6_canHold_51 rfl rfl) ?_
  refine Eq.trans (q_getf dX6_canHold_52 mx_fld_6_22 (gf_33_4 _)) ?_
  refine Eq.trans (q_aload_n dX6_canHold_55 rfl rfl) ?_
  refine Eq.trans (q_iload_n dX6_canHold_56 rfl) ?_
  refine Eq.trans (q_ld (w := 0) (by decide) dX6_canHold_57 (al_46 _ _)) (q_ite ?_)
  refine Eq.trans (q_iconst (x := 1) dX6_canHold_58 rfl) ?_
  refine Eq.trans (q_ishr dX6_canHold_59) ?_
  refine Eq.trans (q_iconst (x := 1) dX6_canHold_60 rfl) ?_
  refine Eq.trans (q_st (w := 2) (by decide) dX6_canHold_61 (as_40 _ _ _)) (q_ite ?_)
  rfl
theorem e_X6_canHold_62 (v2 : Int32) (v3 : Int32) (v4 : Value) (h : mx_H)  : mx_D (14, mm_X6_canHold, 62, [.ref 33, .ref 46, .int v2, .int v3, v4], []) h = mx_D (14, mm_X6_canHold, 6, [.ref 33, .ref 46, .int v2, .int (v3 + 1), v4], []) h := by
  refine Eq.trans (q_iinc (x' := 1) (L' := [.ref 33, .ref 46, .int v2, .int (v3 + 1), v4]) dX6_canHold_62 rfl rfl rfl) ?_
  refine Eq.trans (q_goto 6 dX6_canHold_65 rfl) ?_
  rfl
theorem e_X6_canHold_72 (v2 : Int32) (v3 : Int32) (v4 : Value) (h : mx_H)  : mx_D (14, mm_X6_canHold, 72, [.ref 33, .ref 46, .int v2, .int v3, v4], []) h = mx_D (14, mm_X6_canHold, 74, [.ref 33, .ref 46, .int v2, .int 0, v4], []) h := by
  refine Eq.trans (q_iconst (x := 0) dX6_canHold_72 rfl) ?_
  refine Eq.trans (q_istore_n (L' := [.ref 33, .ref 46, .int v2, .int 0, v4]) dX6_canHold_73 (Nat.le_of_ble_eq_true rfl) rfl) ?_
  rfl
theorem e_X6_canHold_74 (v2 : Int32) (v3 : Int32) (v4 : Value) (h : mx_H)  : mx_D (14, mm_X6_canHold, 74, [.ref 33, .ref 46, .int v2, .int v3, v4], []) h = if 1000000 ≤ v3 then some (some (.int 0), h) else ((mx_C mm_X6_propagate [.ref 33] h).bind (fun o => mx_D (14, mm_X6_canHold, 84, [.ref 33, .ref 46, .int v2, .int v3, v4], o.1.toList ++ []) o.2)) := by
  refine Eq.trans (q_iload_n dX6_canHold_74 rfl) ?_
  refine Eq.trans (q_ldc dX6_canHold_75 mx_ldc_6_63) ?_
  refine Eq.trans (q_icmp_ge 118 dX6_canHold_77 rfl) (q_ite2 ?_ ?_)
  · refine Eq.trans (q_iconst (x := 0) dX6_canHold_118 rfl) ?_
    exact Eq.trans (q_ret dX6_canHold_119 rfl) (if_pos rfl)
  · refine Eq.trans (q_aload_n dX6_canHold_80 rfl rfl) ?_
    exact q_call0 (as := []) (rest := []) dX6_canHold_81 mx_inv_6_64 rfl rfl rfl ⟨Nat.le_of_ble_eq_true rfl, Nat.le_of_ble_eq_true rfl, (Nat.le_of_ble_eq_true rfl)⟩
theorem e_X6_canHold_84 (v2 : Int32) (v3 : Int32) (v4 : Value) (s0 : Int32) (h : mx_H)  : mx_D (14, mm_X6_canHold, 84, [.ref 33, .ref 46, .int v2, .int v3, v4], [.int s0]) h = if s0 = ((-1)) then (mx_C mm_X6_decide [.ref 33] h).bind (fun o => mx_D (14, mm_X6_canHold, 96, [.ref 33, .ref 46, .int v2, .int v3, .int s0], o.1.toList ++ []) o.2) else ((mx_C mm_X6_learnFrom [.ref 33, .int s0] h).bind (fun o => mx_D (14, mm_X6_canHold, 107, [.ref 33, .ref 46, .int v2, .int v3, .int s0], o.1.toList ++ []) o.2)) := by
  refine Eq.trans (q_istore (L' := [.ref 33, .ref 46, .int v2, .int v3, .int s0]) dX6_canHold_84 (Nat.le_of_ble_eq_true rfl) rfl) ?_
  refine Eq.trans (q_iload dX6_canHold_86 rfl) ?_
  refine Eq.trans (q_iconst (x := (-1)) dX6_canHold_88 rfl) ?_
  refine Eq.trans (q_icmp_ne 101 dX6_canHold_89 rfl) (q_ite2 ?_ ?_)
  · refine Eq.trans (q_aload_n dX6_canHold_92 rfl rfl) ?_
    exact q_call0 (as := []) (rest := []) dX6_canHold_93 mx_inv_6_68 rfl rfl rfl ⟨Nat.le_of_ble_eq_true rfl, Nat.le_of_ble_eq_true rfl, (Nat.le_of_ble_eq_true rfl)⟩
  · refine Eq.trans (q_aload_n dX6_canHold_101 rfl rfl) ?_
    refine Eq.trans (q_iload dX6_canHold_102 rfl) ?_
    exact q_call0 (as := [.int s0]) (rest := []) dX6_canHold_104 mx_inv_6_72 rfl rfl rfl ⟨Nat.le_of_ble_eq_true rfl, Nat.le_of_ble_eq_true rfl, (Nat.le_of_ble_eq_true rfl)⟩
theorem e_X6_canHold_96 (v2 : Int32) (v3 : Int32) (v4 : Int32) (s0 : Int32) (h : mx_H)  : mx_D (14, mm_X6_canHold, 96, [.ref 33, .ref 46, .int v2, .int v3, .int v4], [.int s0]) h = if s0 = 0 then some (some (.int 1), h) else (mx_D (14, mm_X6_canHold, 112, [.ref 33, .ref 46, .int v2, .int v3, .int v4], []) h) := by
  refine Eq.trans (q_if_ne 112 dX6_canHold_96 rfl) (q_ite2 ?_ ?_)
  · refine Eq.trans (q_iconst (x := 1) dX6_canHold_99 rfl) ?_
    exact Eq.trans (q_ret dX6_canHold_100 rfl) (if_pos rfl)
  · rfl
theorem e_X6_canHold_107 (v2 : Int32) (v3 : Int32) (v4 : Int32) (s0 : Int32) (h : mx_H)  : mx_D (14, mm_X6_canHold, 107, [.ref 33, .ref 46, .int v2, .int v3, .int v4], [.int s0]) h = if s0 = 0 then some (some (.int 0), h) else (mx_D (14, mm_X6_canHold, 112, [.ref 33, .ref 46, .int v2, .int v3, .int v4], []) h) := by
  refine Eq.trans (q_if_ne 112 dX6_canHold_107 rfl) (q_ite2 ?_ ?_)
  · refine Eq.trans (q_iconst (x := 0) dX6_canHold_110 rfl) ?_
    exact Eq.trans (q_ret dX6_canHold_111 rfl) (if_pos rfl)
  · rfl
theorem e_X6_canHold_112 (v2 : Int32) (v3 : Int32) (v4 : Int32) (h : mx_H)  : mx_D (14, mm_X6_canHold, 112, [.ref 33, .ref 46, .int v2, .int v3, .int v4], []) h = mx_D (14, mm_X6_canHold, 74, [.ref 33, .ref 46, .int v2, .int (v3 + 1), .int v4], []) h := by
  refine Eq.trans (q_iinc (x' := 1) (L' := [.ref 33, .ref 46, .int v2, .int (v3 + 1), .int v4]) dX6_canHold_112 rfl rfl rfl) ?_
  refine Eq.trans (q_goto 74 dX6_canHold_115 rfl) ?_
  rfl
theorem e_X6_begin_0  (h : mx_H)  : mx_D (2, mm_X6_begin, 0, [.ref 33, mx_junk], []) h = (mx_C mm_X2_clear [.ref 34, .int (h.1 22 5)] h).bind (fun o => mx_D (2, mm_X6_begin, 14, [.ref 33, mx_junk], o.1.toList ++ []) o.2) := by
  refine Eq.trans (q_aload_n dX6_begin_0 rfl rfl) ?_
  refine Eq.trans (q_getf dX6_begin_1 mx_fld_6_12 (gf_33_1 _)) ?_
  refine Eq.trans (q_aload_n dX6_begin_4 rfl rfl) ?_
  refine Eq.trans (q_getf dX6_begin_5 mx_fld_6_41 (gf_33_0 _)) ?_
  refine Eq.trans (q_getf dX6_begin_8 mx_fld_6_76 (gf_22_5 _)) ?_
  exact q_call0 (as := [.int (h.1 22 5)]) (rest := []) dX6_begin_11 mx_inv_6_81 rfl rfl rfl ⟨Nat.le_of_ble_eq_true rfl, Nat.le_of_ble_eq_true rfl, (Nat.le_of_ble_eq_true rfl)⟩
theorem c_X6_begin  (h : mx_H) : mx_C mm_X6_begin [.ref 33] h = mx_D (2, mm_X6_begin, 0, [.ref 33, mx_junk], []) h := rfl
theorem e_X6_begin_14  (h : mx_H)  : mx_D (2, mm_X6_begin, 14, [.ref 33, mx_junk], []) h = mx_D (2, mm_X6_begin, 16, [.ref 33, .int 0], []) h := by
  refine Eq.trans (q_iconst (x := 0) dX6_begin_14 rfl) ?_
  refine Eq.trans (q_istore_n (L' := [.ref 33, .int 0]) dX6_begin_15 (Nat.le_of_ble_eq_true rfl) rfl) ?_
  rfl
theorem e_X6_begin_16 (v1 : Int32) (h : mx_H)  : mx_D (2, mm_X6_begin, 16, [.ref 33, .int v1], []) h = if (h.1 22 5) ≤ v1 then mx_D (2, mm_X6_begin, 54, [.ref 33, .int v1], []) h else (if 1065 ≤ v1 then mx_D (2, mm_X6_begin, 54, [.ref 33, .int v1], []) h else (if mx_in v1 1065 = true then if mx_in v1 1065 = true then mx_D (2, mm_X6_begin, 16, [.ref 33, .int (v1 + 1)], []) ((mx_u (mx_u h.1 41 v1.toNatClampNeg 2) 40 v1.toNatClampNeg (vp_nar .boolean 0)), h.2.1, h.2.2) else none else none)) := by
  refine Eq.trans (q_iload_n dX6_begin_16 rfl) ?_
  refine Eq.trans (q_aload_n dX6_begin_17 rfl rfl) ?_
  refine Eq.trans (q_getf dX6_begin_18 mx_fld_6_41 (gf_33_0 _)) ?_
  refine Eq.trans (q_getf dX6_begin_21 mx_fld_6_76 (gf_22_5 _)) ?_
  refine Eq.trans (q_icmp_ge 54 dX6_begin_24 rfl) (q_ite2 ?_ ?_)
  · rfl
  · refine Eq.trans (q_iload_n dX6_begin_27 rfl) ?_
    refine Eq.trans (q_sipush (x := 1065) dX6_begin_28 rfl) ?_
    refine Eq.trans (q_icmp_ge 54 dX6_begin_31 rfl) (q_ite2 ?_ ?_)
    · rfl
    · refine Eq.trans (q_aload_n dX6_begin_34 rfl rfl) ?_
      refine Eq.trans (q_getf dX6_begin_35 mx_fld_6_26 (gf_33_5 _)) ?_
      refine Eq.trans (q_iload_n dX6_begin_38 rfl) ?_
      refine Eq.trans (q_iconst (x := 2) dX6_begin_39 rfl) ?_
      refine Eq.trans (q_st (w := 0) (by decide) dX6_begin_40 (as_41 _ _ _)) (q_ite ?_)
      refine Eq.trans (q_aload_n dX6_begin_41 rfl rfl) ?_
      refine Eq.trans (q_getf dX6_begin_42 mx_fld_6_22 (gf_33_4 _)) ?_
      refine Eq.trans (q_iload_n dX6_begin_45 rfl) ?_
      refine Eq.trans (q_iconst (x := 0) dX6_begin_46 rfl) ?_
      refine Eq.trans (q_st (w := 2) (by decide) dX6_begin_47 (as_40 _ _ _)) (q_ite ?_)
      refine Eq.trans (q_iinc (x' := 1) (L' := [.ref 33, .int (v1 + 1)]) dX6_begin_48 rfl rfl rfl) ?_
      refine Eq.trans (q_goto 16 dX6_begin_51 rfl) ?_
      rfl
theorem e_X6_begin_54 (v1 : Int32) (h : mx_H)  : mx_D (2, mm_X6_begin, 54, [.ref 33, .int v1], []) h = if mx_in 0 1065 = true then some (none, ((mx_u (mx_u (mx_u (mx_u h.1 41 ((0 : Int32).toNatClampNeg) 1) 33 9 0) 33 10 0) 33 11 0), h.2.1, h.2.2)) else none := by
  refine Eq.trans (q_aload_n dX6_begin_54 rfl rfl) ?_
  refine Eq.trans (q_getf dX6_begin_55 mx_fld_6_26 (gf_33_5 _)) ?_
  refine Eq.trans (q_iconst (x := 0) dX6_begin_58 rfl) ?_
  refine Eq.trans (q_iconst (x := 1) dX6_begin_59 rfl) ?_
  refine Eq.trans (q_st (w := 0) (by decide) dX6_begin_60 (as_41 _ _ _)) (q_ite ?_)
  refine Eq.trans (q_aload_n dX6_begin_61 rfl rfl) ?_
  refine Eq.trans (q_iconst (x := 0) dX6_begin_62 rfl) ?_
  refine Eq.trans (q_putf dX6_begin_63 mx_fld_6_85 (pf_33_9 _ _)) ?_
  refine Eq.trans (q_aload_n dX6_begin_66 rfl rfl) ?_
  refine Eq.trans (q_iconst (x := 0) dX6_begin_67 rfl) ?_
  refine Eq.trans (q_putf dX6_begin_68 mx_fld_6_88 (pf_33_10 _ _)) ?_
  refine Eq.trans (q_aload_n dX6_begin_71 rfl rfl) ?_
  refine Eq.trans (q_iconst (x := 0) dX6_begin_72 rfl) ?_
  refine Eq.trans (q_putf dX6_begin_73 mx_fld_6_91 (pf_33_11 _ _)) ?_
  exact q_retV dX6_begin_76 rfl
theorem e_X6_truthOf_0 (v1 : Int32) (h : mx_H)  : mx_D (1, mm_X6_truthOf, 0, [.ref 33, .int v1, mx_junk], []) h = if mx_in (v1 >>> (1 &&& 31)) 1065 = true then if (h.1 41 ((v1 >>> (1 &&& 31)).toNatClampNeg)) = 2 then mx_D (1, mm_X6_truthOf, 23, [.ref 33, .int v1, .int (h.1 41 ((v1 >>> (1 &&& 31)).toNatClampNeg))], [.int 2]) h else (mx_D (1, mm_X6_truthOf, 23, [.ref 33, .int v1, .int (h.1 41 ((v1 >>> (1 &&& 31)).toNatClampNeg))], [.int ((h.1 41 ((v1 >>> (1 &&& 31)).toNatClampNeg)) ^^^ (v1 &&& 1))]) h) else none := by
  refine Eq.trans (q_aload_n dX6_truthOf_0 rfl rfl) ?_
  refine Eq.trans (q_getf dX6_truthOf_1 mx_fld_6_26 (gf_33_5 _)) ?_
  refine Eq.trans (q_iload_n dX6_truthOf_4 rfl) ?_
  refine Eq.trans (q_iconst (x := 1) dX6_truthOf_5 rfl) ?_
  refine Eq.trans (q_ishr dX6_truthOf_6) ?_
  refine Eq.trans (q_ld (w := 0) (by decide) dX6_truthOf_7 (al_41 _ _)) (q_ite ?_)
  refine Eq.trans (q_istore_n (L' := [.ref 33, .int v1, .int (h.1 41 ((v1 >>> (1 &&& 31)).toNatClampNeg))]) dX6_truthOf_8 (Nat.le_of_ble_eq_true rfl) rfl) ?_
  refine Eq.trans (q_iload_n dX6_truthOf_9 rfl) ?_
  refine Eq.trans (q_iconst (x := 2) dX6_truthOf_10 rfl) ?_
  refine Eq.trans (q_icmp_ne 18 dX6_truthOf_11 rfl) (q_ite2 ?_ ?_)
  · refine Eq.trans (q_iconst (x := 2) dX6_truthOf_14 rfl) ?_
    refine Eq.trans (q_goto 23 dX6_truthOf_15 rfl) ?_
    rfl
  · refine Eq.trans (q_iload_n dX6_truthOf_18 rfl) ?_
    refine Eq.trans (q_iload_n dX6_truthOf_19 rfl) ?_
    refine Eq.trans (q_iconst (x := 1) dX6_truthOf_20 rfl) ?_
    refine Eq.trans (q_iand dX6_truthOf_21) ?_
    refine Eq.trans (q_ixor dX6_truthOf_22) ?_
    rfl
theorem c_X6_truthOf (v1 : Int32) (h : mx_H) : mx_C mm_X6_truthOf [.ref 33, .int v1] h = mx_D (1, mm_X6_truthOf, 0, [.ref 33, .int v1, mx_junk], []) h := rfl
theorem e_X6_truthOf_23 (v1 : Int32) (v2 : Int32) (s0 : Int32) (h : mx_H)  : mx_D (1, mm_X6_truthOf, 23, [.ref 33, .int v1, .int v2], [.int s0]) h = some (some (.int s0), h) := by
  exact q_retI dX6_truthOf_23 rfl
theorem e_X6_assign_0 (v1 : Int32) (v2 : Int32) (h : mx_H)  : mx_D (1, mm_X6_assign, 0, [.ref 33, .int v1, .int v2, mx_junk], []) h = if 1065 ≤ (h.1 33 9) then mx_D (1, mm_X6_assign, 62, [.ref 33, .int v1, .int v2, .int (v1 >>> (1 &&& 31))], []) h else (if mx_in (v1 >>> (1 &&& 31)) 1065 = true then if mx_in (v1 >>> (1 &&& 31)) 1065 = true then if mx_in (v1 >>> (1 &&& 31)) 1065 = true then if mx_in ((mx_u (mx_u (mx_u h.1 41 ((v1 >>> (1 &&& 31)).toNatClampNeg) (1 ^^^ (v1 &&& 1))) 42 ((v1 >>> (1 &&& 31)).toNatClampNeg) ((mx_u h.1 41 ((v1 >>> (1 &&& 31)).toNatClampNeg) (1 ^^^ (v1 &&& 1))) 33 11)) 43 ((v1 >>> (1 &&& 31)).toNatClampNeg) v2) 33 9) 1065 = true then mx_D (1, mm_X6_assign, 62, [.ref 33, .int v1, .int v2, .int (v1 >>> (1 &&& 31))], []) ((mx_u (mx_u (mx_u (mx_u (mx_u h.1 41 ((v1 >>> (1 &&& 31)).toNatClampNeg) (1 ^^^ (v1 &&& 1))) 42 ((v1 >>> (1 &&& 31)).toNatClampNeg) ((mx_u h.1 41 ((v1 >>> (1 &&& 31)).toNatClampNeg) (1 ^^^ (v1 &&& 1))) 33 11)) 43 ((v1 >>> (1 &&& 31)).toNatClampNeg) v2) 44 (((mx_u (mx_u (mx_u h.1 41 ((v1 >>> (1 &&& 31)).toNatClampNeg) (1 ^^^ (v1 &&& 1))) 42 ((v1 >>> (1 &&& 31)).toNatClampNeg) ((mx_u h.1 41 ((v1 >>> (1 &&& 31)).toNatClampNeg) (1 ^^^ (v1 &&& 1))) 33 11)) 43 ((v1 >>> (1 &&& 31)).toNatClampNeg) v2) 33 9).toNatClampNeg) v1) 33 9 (((mx_u (mx_u (mx_u (mx_u h.1 41 ((v1 >>> (1 &&& 31)).toNatClampNeg) (1 ^^^ (v1 &&& 1))) 42 ((v1 >>> (1 &&& 31)).toNatClampNeg) ((mx_u h.1 41 ((v1 >>> (1 &&& 31)).toNatClampNeg) (1 ^^^ (v1 &&& 1))) 33 11)) 43 ((v1 >>> (1 &&& 31)).toNatClampNeg) v2) 44 (((mx_u (mx_u (mx_u h.1 41 ((v1 >>> (1 &&& 31)).toNatClampNeg) (1 ^^^ (v1 &&& 1))) 42 ((v1 >>> (1 &&& 31)).toNatClampNeg) ((mx_u h.1 41 ((v1 >>> (1 &&& 31)).toNatClampNeg) (1 ^^^ (v1 &&& 1))) 33 11)) 43 ((v1 >>> (1 &&& 31)).toNatClampNeg) v2) 33 9).toNatClampNeg) v1) 33 9) + 1)), h.2.1, h.2.2) else none else none else none else none) := by
  refine Eq.trans (q_iload_n dX6_assign_0 rfl) ?_
  refine Eq.trans (q_iconst (x := 1) dX6_assign_1 rfl) ?_
  refine Eq.trans (q_ishr dX6_assign_2) ?_
  refine Eq.trans (q_istore_n (L' := [.ref 33, .int v1, .int v2, .int (v1 >>> (1 &&& 31))]) dX6_assign_3 (Nat.le_of_ble_eq_true rfl) rfl) ?_
  refine Eq.trans (q_aload_n dX6_assign_4 rfl rfl) ?_
  refine Eq.trans (q_getf dX6_assign_5 mx_fld_6_85 (gf_33_9 _)) ?_
  refine Eq.trans (q_sipush (x := 1065) dX6_assign_8 rfl) ?_
  refine Eq.trans (q_icmp_ge 62 dX6_assign_11 rfl) (q_ite2 ?_ ?_)
  · rfl
  · refine Eq.trans (q_aload_n dX6_assign_14 rfl rfl) ?_
    refine Eq.trans (q_getf dX6_assign_15 mx_fld_6_26 (gf_33_5 _)) ?_
    refine Eq.trans (q_iload_n dX6_assign_18 rfl) ?_
    refine Eq.trans (q_iconst (x := 1) dX6_assign_19 rfl) ?_
    refine Eq.trans (q_iload_n dX6_assign_20 rfl) ?_
    refine Eq.trans (q_iconst (x := 1) dX6_assign_21 rfl) ?_
    refine Eq.trans (q_iand dX6_assign_22) ?_
    refine Eq.trans (q_ixor dX6_assign_23) ?_
    refine Eq.trans (q_st (w := 0) (by decide) dX6_assign_24 (as_41 _ _ _)) (q_ite ?_)
    refine Eq.trans (q_aload_n dX6_assign_25 rfl rfl) ?_
    refine Eq.trans (q_getf dX6_assign_26 mx_fld_6_29 (gf_33_6 _)) ?_
    refine Eq.trans (q_iload_n dX6_assign_29 rfl) ?_
    refine Eq.trans (q_aload_n dX6_assign_30 rfl rfl) ?_
    refine Eq.trans (q_getf dX6_assign_31 mx_fld_6_91 (gf_33_11 _)) ?_
    refine Eq.trans (q_st (w := 0) (by decide) dX6_assign_34 (as_42 _ _ _)) (q_ite ?_)
    refine Eq.trans (q_aload_n dX6_assign_35 rfl rfl) ?_
    refine Eq.trans (q_getf dX6_assign_36 mx_fld_6_32 (gf_33_7 _)) ?_
    refine Eq.trans (q_iload_n dX6_assign_39 rfl) ?_
    refine Eq.trans (q_iload_n dX6_assign_40 rfl) ?_
    refine Eq.trans (q_st (w := 0) (by decide) dX6_assign_41 (as_43 _ _ _)) (q_ite ?_)
    refine Eq.trans (q_aload_n dX6_assign_42 rfl rfl) ?_
    refine Eq.trans (q_getf dX6_assign_43 mx_fld_6_35 (gf_33_8 _)) ?_
    refine Eq.trans (q_aload_n dX6_assign_46 rfl rfl) ?_
    refine Eq.trans (q_getf dX6_assign_47 mx_fld_6_85 (gf_33_9 _)) ?_
    refine Eq.trans (q_iload_n dX6_assign_50 rfl) ?_
    refine Eq.trans (q_st (w := 0) (by decide) dX6_assign_51 (as_44 _ _ _)) (q_ite ?_)
    refine Eq.trans (q_aload_n dX6_assign_52 rfl rfl) ?_
    refine Eq.trans (q_dup dX6_assign_53 rfl) ?_
    refine Eq.trans (q_getf dX6_assign_54 mx_fld_6_85 (gf_33_9 _)) ?_
    refine Eq.trans (q_iconst (x := 1) dX6_assign_57 rfl) ?_
    refine Eq.trans (q_iadd dX6_assign_58) ?_
    refine Eq.trans (q_putf dX6_assign_59 mx_fld_6_85 (pf_33_9 _ _)) ?_
    rfl
theorem c_X6_assign (v1 : Int32) (v2 : Int32) (h : mx_H) : mx_C mm_X6_assign [.ref 33, .int v1, .int v2] h = mx_D (1, mm_X6_assign, 0, [.ref 33, .int v1, .int v2, mx_junk], []) h := rfl
theorem e_X6_assign_62 (v1 : Int32) (v2 : Int32) (v3 : Int32) (h : mx_H)  : mx_D (1, mm_X6_assign, 62, [.ref 33, .int v1, .int v2, .int v3], []) h = some (none, h) := by
  exact q_retV dX6_assign_62 rfl
theorem e_X6_loadMarked_0  (h : mx_H)  : mx_D (5, mm_X6_loadMarked, 0, [.ref 33, mx_junk, mx_junk, mx_junk, mx_junk], []) h = mx_D (5, mm_X6_loadMarked, 10, [.ref 33, .int ((h.1 22 5) - 1), mx_junk, mx_junk, mx_junk], []) h := by
  refine Eq.trans (q_aload_n dX6_loadMarked_0 rfl rfl) ?_
  refine Eq.trans (q_getf dX6_loadMarked_1 mx_fld_6_41 (gf_33_0 _)) ?_
  refine Eq.trans (q_getf dX6_loadMarked_4 mx_fld_6_76 (gf_22_5 _)) ?_
  refine Eq.trans (q_iconst (x := 1) dX6_loadMarked_7 rfl) ?_
  refine Eq.trans (q_isub dX6_loadMarked_8) ?_
  refine Eq.trans (q_istore_n (L' := [.ref 33, .int ((h.1 22 5) - 1), mx_junk, mx_junk, mx_junk]) dX6_loadMarked_9 (Nat.le_of_ble_eq_true rfl) rfl) ?_
  rfl
theorem c_X6_loadMarked  (h : mx_H) : mx_C mm_X6_loadMarked [.ref 33] h = mx_D (5, mm_X6_loadMarked, 0, [.ref 33, mx_junk, mx_junk, mx_junk, mx_junk], []) h := rfl
theorem e_X6_loadMarked_10 (v1 : Int32) (v2 : Value) (v3 : Value) (v4 : Value) (h : mx_H)  : mx_D (5, mm_X6_loadMarked, 10, [.ref 33, .int v1, v2, v3, v4], []) h = if v1 < 9 then mx_D (5, mm_X6_loadMarked, 122, [.ref 33, .int 0, v2, v3, v4], []) h else (if mx_in v1 1065 = true then if (h.1 40 v1.toNatClampNeg) = 0 then mx_D (5, mm_X6_loadMarked, 114, [.ref 33, .int v1, v2, v3, v4], []) h else (if mx_in v1 1065 = true then if mx_in v1 1065 = true then if mx_in v1 1065 = true then if mx_in v1 1065 = true then if mx_in (((mx_u h.1 40 v1.toNatClampNeg (vp_nar .boolean 0)) 26 v1.toNatClampNeg) >>> (1 &&& 31)) 1065 = true then if mx_in (((mx_u h.1 40 v1.toNatClampNeg (vp_nar .boolean 0)) 24 v1.toNatClampNeg) >>> (1 &&& 31)) 1065 = true then if mx_in (((mx_u h.1 40 v1.toNatClampNeg (vp_nar .boolean 0)) 25 v1.toNatClampNeg) >>> (1 &&& 31)) 1065 = true then if mx_in v1 1065 = true then (mx_C mm_X2_tell [.ref 34, .int ((mx_u (mx_u (mx_u (mx_u h.1 40 v1.toNatClampNeg (vp_nar .boolean 0)) 40 ((((mx_u h.1 40 v1.toNatClampNeg (vp_nar .boolean 0)) 26 v1.toNatClampNeg) >>> (1 &&& 31)).toNatClampNeg) (vp_nar .boolean 1)) 40 ((((mx_u h.1 40 v1.toNatClampNeg (vp_nar .boolean 0)) 24 v1.toNatClampNeg) >>> (1 &&& 31)).toNatClampNeg) (vp_nar .boolean 1)) 40 ((((mx_u h.1 40 v1.toNatClampNeg (vp_nar .boolean 0)) 25 v1.toNatClampNeg) >>> (1 &&& 31)).toNatClampNeg) (vp_nar .boolean 1)) 23 v1.toNatClampNeg), .int (2 * v1), .int ((mx_u h.1 40 v1.toNatClampNeg (vp_nar .boolean 0)) 26 v1.toNatClampNeg), .int ((mx_u h.1 40 v1.toNatClampNeg (vp_nar .boolean 0)) 24 v1.toNatClampNeg), .int ((mx_u h.1 40 v1.toNatClampNeg (vp_nar .boolean 0)) 25 v1.toNatClampNeg)] ((mx_u (mx_u (mx_u (mx_u h.1 40 v1.toNatClampNeg (vp_nar .boolean 0)) 40 ((((mx_u h.1 40 v1.toNatClampNeg (vp_nar .boolean 0)) 26 v1.toNatClampNeg) >>> (1 &&& 31)).toNatClampNeg) (vp_nar .boolean 1)) 40 ((((mx_u h.1 40 v1.toNatClampNeg (vp_nar .boolean 0)) 24 v1.toNatClampNeg) >>> (1 &&& 31)).toNatClampNeg) (vp_nar .boolean 1)) 40 ((((mx_u h.1 40 v1.toNatClampNeg (vp_nar .boolean 0)) 25 v1.toNatClampNeg) >>> (1 &&& 31)).toNatClampNeg) (vp_nar .boolean 1)), h.2.1, h.2.2)).bind (fun o => mx_D (5, mm_X6_loadMarked, 114, [.ref 33, .int v1, .int ((mx_u h.1 40 v1.toNatClampNeg (vp_nar .boolean 0)) 26 v1.toNatClampNeg), .int ((mx_u h.1 40 v1.toNatClampNeg (vp_nar .boolean 0)) 24 v1.toNatClampNeg), .int ((mx_u h.1 40 v1.toNatClampNeg (vp_nar .boolean 0)) 25 v1.toNatClampNeg)], o.1.toList ++ []) o.2) else none else none else none else none else none else none else none else none) else none) := by
  refine Eq.trans (q_iload_n dX6_loadMarked_10 rfl) ?_
  refine Eq.trans (q_bipush (x := 9) dX6_loadMarked_11 rfl) ?_
  refine Eq.trans (q_icmp_lt 120 dX6_loadMarked_13 rfl) (q_ite2 ?_ ?_)
  · refine Eq.trans (q_iconst (x := 0) dX6_loadMarked_120 rfl) ?_
    refine Eq.trans (q_istore_n (L' := [.ref 33, .int 0, v2, v3, v4]) dX6_loadMarked_121 (Nat.le_of_ble_eq_true rfl) rfl) ?_
    rfl
  · refine Eq.trans (q_aload_n dX6_loadMarked_16 rfl rfl) ?_
    refine Eq.trans (q_getf dX6_loadMarked_17 mx_fld_6_22 (gf_33_4 _)) ?_
    refine Eq.trans (q_iload_n dX6_loadMarked_20 rfl) ?_
    refine Eq.trans (q_ld (w := 2) (by decide) dX6_loadMarked_21 (al_40 _ _)) (q_ite ?_)
    refine Eq.trans (q_if_eq 114 dX6_loadMarked_22 rfl) (q_ite2 ?_ ?_)
    · rfl
    · refine Eq.trans (q_aload_n dX6_loadMarked_25 rfl rfl) ?_
      refine Eq.trans (q_getf dX6_loadMarked_26 mx_fld_6_22 (gf_33_4 _)) ?_
      refine Eq.trans (q_iload_n dX6_loadMarked_29 rfl) ?_
      refine Eq.trans (q_iconst (x := 0) dX6_loadMarked_30 rfl) ?_
      refine Eq.trans (q_st (w := 2) (by decide) dX6_loadMarked_31 (as_40 _ _ _)) (q_ite ?_)
      refine Eq.trans (q_aload_n dX6_loadMarked_32 rfl rfl) ?_
      refine Eq.trans (q_getf dX6_loadMarked_33 mx_fld_6_41 (gf_33_0 _)) ?_
      refine Eq.trans (q_getf dX6_loadMarked_36 mx_fld_6_94 (gf_22_3 _)) ?_
      refine Eq.trans (q_iload_n dX6_loadMarked_39 rfl) ?_
      refine Eq.trans (q_ld (w := 0) (by decide) dX6_loadMarked_40 (al_26 _ _)) (q_ite ?_)
      refine Eq.trans (q_istore_n (L' := [.ref 33, .int v1, .int ((mx_u h.1 40 v1.toNatClampNeg (vp_nar .boolean 0)) 26 v1.toNatClampNeg), v3, v4]) dX6_loadMarked_41 (Nat.le_of_ble_eq_true rfl) rfl) ?_
      refine Eq.trans (q_aload_n dX6_loadMarked_42 rfl rfl) ?_
      refine Eq.trans (q_getf dX6_loadMarked_43 mx_fld_6_41 (gf_33_0 _)) ?_
      refine Eq.trans (q_getf dX6_loadMarked_46 mx_fld_6_97 (gf_22_1 _)) ?_
      refine Eq.trans (q_iload_n dX6_loadMarked_49 rfl) ?_
      refine Eq.trans (q_ld (w := 0) (by decide) dX6_loadMarked_50 (al_24 _ _)) (q_ite ?_)
      refine Eq.trans (q_istore_n (L' := [.ref 33, .int v1, .int ((mx_u h.1 40 v1.toNatClampNeg (vp_nar .boolean 0)) 26 v1.toNatClampNeg), .int ((mx_u h.1 40 v1.toNatClampNeg (vp_nar .boolean 0)) 24 v1.toNatClampNeg), v4]) dX6_loadMarked_51 (Nat.le_of_ble_eq_true rfl) rfl) ?_
      refine Eq.trans (q_aload_n dX6_loadMarked_52 rfl rfl) ?_
      refine Eq.trans (q_getf dX6_loadMarked_53 mx_fld_6_41 (gf_33_0 _)) ?_
      refine Eq.trans (q_getf dX6_loadMarked_56 mx_fld_6_100 (gf_22_2 _)) ?_
      refine Eq.trans (q_iload_n dX6_loadMarked_59 rfl) ?_
      refine Eq.trans (q_ld (w := 0) (by decide) dX6_loadMarked_60 (al_25 _ _)) (q_ite ?_)
      refine Eq.trans (q_istore (L' := [.ref 33, .int v1, .int ((mx_u h.1 40 v1.toNatClampNeg (vp_nar .boolean 0)) 26 v1.toNatClampNeg), .int ((mx_u h.1 40 v1.toNatClampNeg (vp_nar .boolean 0)) 24 v1.toNatClampNeg), .int ((mx_u h.1 40 v1.toNatClampNeg (vp_nar .boolean 0)) 25 v1.toNatClampNeg)]) dX6_loadMarked_61 (Nat.le_of_ble_eq_true rfl) rfl) ?_
      refine Eq.trans (q_aload_n dX6_loadMarked_63 rfl rfl) ?_
      refine Eq.trans (q_getf dX6_loadMarked_64 mx_fld_6_22 (gf_33_4 _)) ?_
      refine Eq.trans (q_iload_n dX6_loadMarked_67 rfl) ?_
      refine Eq.trans (q_iconst (x := 1) dX6_loadMarked_68 rfl) ?_
      refine Eq.trans (q_ishr dX6_loadMarked_69) ?_
      refine Eq.trans (q_iconst (x := 1) dX6_loadMarked_70 rfl) ?_
      refine Eq.trans (q_st (w := 2) (by decide) dX6_loadMarked_71 (as_40 _ _ _)) (q_ite ?_)
      refine Eq.trans (q_aload_n dX6_loadMarked_72 rfl rfl) ?_
      refine Eq.trans (q_getf dX6_loadMarked_73 mx_fld_6_22 (gf_33_4 _)) ?_
      refine Eq.trans (q_iload_n dX6_loadMarked_76 rfl) ?_
      refine Eq.trans (q_iconst (x := 1) dX6_loadMarked_77 rfl) ?_
      refine Eq.trans (q_ishr dX6_loadMarked_78) ?_
      refine Eq.trans (q_iconst (x := 1) dX6_loadMarked_79 rfl) ?_
      refine Eq.trans (q_st (w := 2) (by decide) dX6_loadMarked_80 (as_40 _ _ _)) (q_ite ?_)
      refine Eq.trans (q_aload_n dX6_loadMarked_81 rfl rfl) ?_
      refine Eq.trans (q_getf dX6_loadMarked_82 mx_fld_6_22 (gf_33_4 _)) ?_
      refine Eq.trans (q_iload dX6_loadMarked_85 rfl) ?_
      refine Eq.trans (q_iconst (x := 1) dX6_loadMarked_87 rfl) ?_
      refine Eq.trans (q_ishr dX6_loadMarked_88) ?_
      refine Eq.trans (q_iconst (x := 1) dX6_loadMarked_89 rfl) ?_
      refine Eq.trans (q_st (w := 2) (by decide) dX6_loadMarked_90 (as_40 _ _ _)) (q_ite ?_)
      refine Eq.trans (q_aload_n dX6_loadMarked_91 rfl rfl) ?_
      refine Eq.trans (q_getf dX6_loadMarked_92 mx_fld_6_12 (gf_33_1 _)) ?_
      refine Eq.trans (q_aload_n dX6_loadMarked_95 rfl rfl) ?_
      refine Eq.trans (q_getf dX6_loadMarked_96 mx_fld_6_41 (gf_33_0 _)) ?_
      refine Eq.trans (q_getf dX6_loadMarked_99 mx_fld_6_103 (gf_22_0 _)) ?_
      refine Eq.trans (q_iload_n dX6_loadMarked_102 rfl) ?_
      refine Eq.trans (q_ld (w := 0) (by decide) dX6_loadMarked_103 (al_23 _ _)) (q_ite ?_)
      refine Eq.trans (q_iconst (x := 2) dX6_loadMarked_104 rfl) ?_
      refine Eq.trans (q_iload_n dX6_loadMarked_105 rfl) ?_
      refine Eq.trans (q_imul dX6_loadMarked_106) ?_
      refine Eq.trans (q_iload_n dX6_loadMarked_107 rfl) ?_
      refine Eq.trans (q_iload_n dX6_loadMarked_108 rfl) ?_
      refine Eq.trans (q_iload dX6_loadMarked_109 rfl) ?_
      exact q_call0 (as := [.int ((mx_u (mx_u (mx_u (mx_u h.1 40 v1.toNatClampNeg (vp_nar .boolean 0)) 40 ((((mx_u h.1 40 v1.toNatClampNeg (vp_nar .boolean 0)) 26 v1.toNatClampNeg) >>> (1 &&& 31)).toNatClampNeg) (vp_nar .boolean 1)) 40 ((((mx_u h.1 40 v1.toNatClampNeg (vp_nar .boolean 0)) 24 v1.toNatClampNeg) >>> (1 &&& 31)).toNatClampNeg) (vp_nar .boolean 1)) 40 ((((mx_u h.1 40 v1.toNatClampNeg (vp_nar .boolean 0)) 25 v1.toNatClampNeg) >>> (1 &&& 31)).toNatClampNeg) (vp_nar .boolean 1)) 23 v1.toNatClampNeg), .int (2 * v1), .int ((mx_u h.1 40 v1.toNatClampNeg (vp_nar .boolean 0)) 26 v1.toNatClampNeg), .int ((mx_u h.1 40 v1.toNatClampNeg (vp_nar .boolean 0)) 24 v1.toNatClampNeg), .int ((mx_u h.1 40 v1.toNatClampNeg (vp_nar .boolean 0)) 25 v1.toNatClampNeg)]) (rest := []) dX6_loadMarked_111 mx_inv_6_106 rfl rfl rfl ⟨Nat.le_of_ble_eq_true rfl, Nat.le_of_ble_eq_true rfl, (Nat.le_of_ble_eq_true rfl)⟩
theorem e_X6_loadMarked_114 (v1 : Int32) (v2 : Value) (v3 : Value) (v4 : Value) (h : mx_H)  : mx_D (5, mm_X6_loadMarked, 114, [.ref 33, .int v1, v2, v3, v4], []) h = mx_D (5, mm_X6_loadMarked, 10, [.ref 33, .int (v1 + (-1)), v2, v3, v4], []) h := by
  refine Eq.trans (q_iinc (x' := (-1)) (L' := [.ref 33, .int (v1 + (-1)), v2, v3, v4]) dX6_loadMarked_114 rfl rfl rfl) ?_
  refine Eq.trans (q_goto 10 dX6_loadMarked_117 rfl) ?_
  rfl
theorem e_X6_loadMarked_122 (v1 : Int32) (v2 : Value) (v3 : Value) (v4 : Value) (h : mx_H)  : mx_D (5, mm_X6_loadMarked, 122, [.ref 33, .int v1, v2, v3, v4], []) h = if 9 ≤ v1 then some (none, h) else (if mx_in v1 1065 = true then mx_D (5, mm_X6_loadMarked, 122, [.ref 33, .int (v1 + 1), v2, v3, v4], []) ((mx_u h.1 40 v1.toNatClampNeg (vp_nar .boolean 0)), h.2.1, h.2.2) else none) := by
  refine Eq.trans (q_iload_n dX6_loadMarked_122 rfl) ?_
  refine Eq.trans (q_bipush (x := 9) dX6_loadMarked_123 rfl) ?_
  refine Eq.trans (q_icmp_ge 141 dX6_loadMarked_125 rfl) (q_ite2 ?_ ?_)
  · exact q_retV dX6_loadMarked_141 rfl
  · refine Eq.trans (q_aload_n dX6_loadMarked_128 rfl rfl) ?_
    refine Eq.trans (q_getf dX6_loadMarked_129 mx_fld_6_22 (gf_33_4 _)) ?_
    refine Eq.trans (q_iload_n dX6_loadMarked_132 rfl) ?_
    refine Eq.trans (q_iconst (x := 0) dX6_loadMarked_133 rfl) ?_
    refine Eq.trans (q_st (w := 2) (by decide) dX6_loadMarked_134 (as_40 _ _ _)) (q_ite ?_)
    refine Eq.trans (q_iinc (x' := 1) (L' := [.ref 33, .int (v1 + 1), v2, v3, v4]) dX6_loadMarked_135 rfl rfl rfl) ?_
    refine Eq.trans (q_goto 122 dX6_loadMarked_138 rfl) ?_
    rfl
theorem e_X6_propagate_0 (v1 : Value) (h : mx_H)  : mx_D (4, mm_X6_propagate, 0, [.ref 33, v1], []) h = if (h.1 33 9) ≤ (h.1 33 10) then mx_D (4, mm_X6_propagate, 57, [.ref 33, v1], []) h else (if 1065 ≤ (h.1 33 10) then mx_D (4, mm_X6_propagate, 57, [.ref 33, v1], []) h else (if mx_in (h.1 33 10) 1065 = true then (mx_C mm_X6_visit [.ref 33, .int ((h.1 44 ((h.1 33 10).toNatClampNeg)) ^^^ 1)] h).bind (fun o => mx_D (4, mm_X6_propagate, 36, [.ref 33, v1], o.1.toList ++ []) o.2) else none)) := by
  refine Eq.trans (q_aload_n dX6_propagate_0 rfl rfl) ?_
  refine Eq.trans (q_getf dX6_propagate_1 mx_fld_6_88 (gf_33_10 _)) ?_
  refine Eq.trans (q_aload_n dX6_propagate_4 rfl rfl) ?_
  refine Eq.trans (q_getf dX6_propagate_5 mx_fld_6_85 (gf_33_9 _)) ?_
  refine Eq.trans (q_icmp_ge 57 dX6_propagate_8 rfl) (q_ite2 ?_ ?_)
  · rfl
  · refine Eq.trans (q_aload_n dX6_propagate_11 rfl rfl) ?_
    refine Eq.trans (q_getf dX6_propagate_12 mx_fld_6_88 (gf_33_10 _)) ?_
    refine Eq.trans (q_sipush (x := 1065) dX6_propagate_15 rfl) ?_
    refine Eq.trans (q_icmp_ge 57 dX6_propagate_18 rfl) (q_ite2 ?_ ?_)
    · rfl
    · refine Eq.trans (q_aload_n dX6_propagate_21 rfl rfl) ?_
      refine Eq.trans (q_aload_n dX6_propagate_22 rfl rfl) ?_
      refine Eq.trans (q_getf dX6_propagate_23 mx_fld_6_35 (gf_33_8 _)) ?_
      refine Eq.trans (q_aload_n dX6_propagate_26 rfl rfl) ?_
      refine Eq.trans (q_getf dX6_propagate_27 mx_fld_6_88 (gf_33_10 _)) ?_
      refine Eq.trans (q_ld (w := 0) (by decide) dX6_propagate_30 (al_44 _ _)) (q_ite ?_)
      refine Eq.trans (q_iconst (x := 1) dX6_propagate_31 rfl) ?_
      refine Eq.trans (q_ixor dX6_propagate_32) ?_
      exact q_call0 (as := [.int ((h.1 44 ((h.1 33 10).toNatClampNeg)) ^^^ 1)]) (rest := []) dX6_propagate_33 mx_inv_6_110 rfl rfl rfl ⟨Nat.le_of_ble_eq_true rfl, Nat.le_of_ble_eq_true rfl, (Nat.le_of_ble_eq_true rfl)⟩
theorem c_X6_propagate  (h : mx_H) : mx_C mm_X6_propagate [.ref 33] h = mx_D (4, mm_X6_propagate, 0, [.ref 33, mx_junk], []) h := rfl
theorem e_X6_propagate_36 (v1 : Value) (s0 : Int32) (h : mx_H)  : mx_D (4, mm_X6_propagate, 36, [.ref 33, v1], [.int s0]) h = if s0 = ((-1)) then mx_D (4, mm_X6_propagate, 0, [.ref 33, .int s0], []) ((mx_u h.1 33 10 ((h.1 33 10) + 1)), h.2.1, h.2.2) else (some (some (.int s0), ((mx_u h.1 33 10 ((h.1 33 10) + 1)), h.2.1, h.2.2))) := by
  refine Eq.trans (q_istore_n (L' := [.ref 33, .int s0]) dX6_propagate_36 (Nat.le_of_ble_eq_true rfl) rfl) ?_
  refine Eq.trans (q_aload_n dX6_propagate_37 rfl rfl) ?_
  refine Eq.trans (q_dup dX6_propagate_38 rfl) ?_
  refine Eq.trans (q_getf dX6_propagate_39 mx_fld_6_88 (gf_33_10 _)) ?_
  refine Eq.trans (q_iconst (x := 1) dX6_propagate_42 rfl) ?_
  refine Eq.trans (q_iadd dX6_propagate_43) ?_
  refine Eq.trans (q_putf dX6_propagate_44 mx_fld_6_88 (pf_33_10 _ _)) ?_
  refine Eq.trans (q_iload_n dX6_propagate_47 rfl) ?_
  refine Eq.trans (q_iconst (x := (-1)) dX6_propagate_48 rfl) ?_
  refine Eq.trans (q_icmp_eq 54 dX6_propagate_49 rfl) (q_ite2 ?_ ?_)
  · refine Eq.trans (q_goto 0 dX6_propagate_54 rfl) ?_
    rfl
  · refine Eq.trans (q_iload_n dX6_propagate_52 rfl) ?_
    exact q_retI dX6_propagate_53 rfl
theorem e_X6_propagate_57 (v1 : Value) (h : mx_H)  : mx_D (4, mm_X6_propagate, 57, [.ref 33, v1], []) h = some (some (.int ((-1))), h) := by
  refine Eq.trans (q_iconst (x := (-1)) dX6_propagate_57 rfl) ?_
  exact q_retI dX6_propagate_58 rfl
theorem e_X6_visit_0 (v1 : Int32) (h : mx_H)  : mx_D (3, mm_X6_visit, 0, [.ref 33, .int v1, mx_junk, mx_junk, mx_junk, mx_junk, mx_junk, mx_junk, mx_junk], []) h = if mx_in v1 2130 = true then if mx_in v1 2130 = true then mx_D (3, mm_X6_visit, 25, [.ref 33, .int v1, .int ((-1)), .int (h.1 37 v1.toNatClampNeg), .int 0, mx_junk, mx_junk, mx_junk, mx_junk], []) ((mx_u h.1 37 v1.toNatClampNeg ((-1))), h.2.1, h.2.2) else none else none := by
  refine Eq.trans (q_iconst (x := (-1)) dX6_visit_0 rfl) ?_
  refine Eq.trans (q_istore_n (L' := [.ref 33, .int v1, .int ((-1)), mx_junk, mx_junk, mx_junk, mx_junk, mx_junk, mx_junk]) dX6_visit_1 (Nat.le_of_ble_eq_true rfl) rfl) ?_
  refine Eq.trans (q_aload_n dX6_visit_2 rfl rfl) ?_
  refine Eq.trans (q_getf dX6_visit_3 mx_fld_6_12 (gf_33_1 _)) ?_
  refine Eq.trans (q_getf dX6_visit_6 mx_fld_6_113 (gf_34_3 _)) ?_
  refine Eq.trans (q_iload_n dX6_visit_9 rfl) ?_
  refine Eq.trans (q_ld (w := 0) (by decide) dX6_visit_10 (al_37 _ _)) (q_ite ?_)
  refine Eq.trans (q_istore_n (L' := [.ref 33, .int v1, .int ((-1)), .int (h.1 37 v1.toNatClampNeg), mx_junk, mx_junk, mx_junk, mx_junk, mx_junk]) dX6_visit_11 (Nat.le_of_ble_eq_true rfl) rfl) ?_
  refine Eq.trans (q_aload_n dX6_visit_12 rfl rfl) ?_
  refine Eq.trans (q_getf dX6_visit_13 mx_fld_6_12 (gf_33_1 _)) ?_
  refine Eq.trans (q_getf dX6_visit_16 mx_fld_6_113 (gf_34_3 _)) ?_
  refine Eq.trans (q_iload_n dX6_visit_19 rfl) ?_
  refine Eq.trans (q_iconst (x := (-1)) dX6_visit_20 rfl) ?_
  refine Eq.trans (q_st (w := 0) (by decide) dX6_visit_21 (as_37 _ _ _)) (q_ite ?_)
  refine Eq.trans (q_iconst (x := 0) dX6_visit_22 rfl) ?_
  refine Eq.trans (q_istore (L' := [.ref 33, .int v1, .int ((-1)), .int (h.1 37 v1.toNatClampNeg), .int 0, mx_junk, mx_junk, mx_junk, mx_junk]) dX6_visit_23 (Nat.le_of_ble_eq_true rfl) rfl) ?_
  rfl
theorem c_X6_visit (v1 : Int32) (h : mx_H) : mx_C mm_X6_visit [.ref 33, .int v1] h = mx_D (3, mm_X6_visit, 0, [.ref 33, .int v1, mx_junk, mx_junk, mx_junk, mx_junk, mx_junk, mx_junk, mx_junk], []) h := rfl
theorem e_X6_visit_25 (v1 : Int32) (v2 : Int32) (v3 : Int32) (v4 : Int32) (v5 : Value) (v6 : Value) (v7 : Value) (v8 : Value) (h : mx_H)  : mx_D (3, mm_X6_visit, 25, [.ref 33, .int v1, .int v2, .int v3, .int v4, v5, v6, v7, v8], []) h = if 9032 ≤ v4 then mx_D (3, mm_X6_visit, 166, [.ref 33, .int v1, .int v2, .int v3, .int v4, v5, v6, v7, v8], []) h else (if v3 = ((-1)) then mx_D (3, mm_X6_visit, 166, [.ref 33, .int v1, .int v2, .int v3, .int v4, v5, v6, v7, v8], []) h else (if mx_in v3 9032 = true then (mx_C mm_X2_watched [.ref 34, .int (v3 ^^^ 1)] h).bind (fun o => mx_D (3, mm_X6_visit, 59, [.ref 33, .int v1, .int v2, .int v3, .int v4, .int (h.1 38 v3.toNatClampNeg), v6, v7, v8], o.1.toList ++ []) o.2) else none)) := by
  refine Eq.trans (q_iload dX6_visit_25 rfl) ?_
  refine Eq.trans (q_sipush (x := 9032) dX6_visit_27 rfl) ?_
  refine Eq.trans (q_icmp_ge 166 dX6_visit_30 rfl) (q_ite2 ?_ ?_)
  · rfl
  · refine Eq.trans (q_iload_n dX6_visit_33 rfl) ?_
    refine Eq.trans (q_iconst (x := (-1)) dX6_visit_34 rfl) ?_
    refine Eq.trans (q_icmp_eq 166 dX6_visit_35 rfl) (q_ite2 ?_ ?_)
    · rfl
    · refine Eq.trans (q_aload_n dX6_visit_38 rfl rfl) ?_
      refine Eq.trans (q_getf dX6_visit_39 mx_fld_6_12 (gf_33_1 _)) ?_
      refine Eq.trans (q_getf dX6_visit_42 mx_fld_6_116 (gf_34_4 _)) ?_
      refine Eq.trans (q_iload_n dX6_visit_45 rfl) ?_
      refine Eq.trans (q_ld (w := 0) (by decide) dX6_visit_46 (al_38 _ _)) (q_ite ?_)
      refine Eq.trans (q_istore (L' := [.ref 33, .int v1, .int v2, .int v3, .int v4, .int (h.1 38 v3.toNatClampNeg), v6, v7, v8]) dX6_visit_47 (Nat.le_of_ble_eq_true rfl) rfl) ?_
      refine Eq.trans (q_aload_n dX6_visit_49 rfl rfl) ?_
      refine Eq.trans (q_getf dX6_visit_50 mx_fld_6_12 (gf_33_1 _)) ?_
      refine Eq.trans (q_iload_n dX6_visit_53 rfl) ?_
      refine Eq.trans (q_iconst (x := 1) dX6_visit_54 rfl) ?_
      refine Eq.trans (q_ixor dX6_visit_55) ?_
      exact q_call0 (as := [.int (v3 ^^^ 1)]) (rest := []) dX6_visit_56 mx_inv_6_119 rfl rfl rfl ⟨Nat.le_of_ble_eq_true rfl, Nat.le_of_ble_eq_true rfl, (Nat.le_of_ble_eq_true rfl)⟩
theorem e_X6_visit_59 (v1 : Int32) (v2 : Int32) (v3 : Int32) (v4 : Int32) (v5 : Int32) (v6 : Value) (v7 : Value) (v8 : Value) (s0 : Int32) (h : mx_H)  : mx_D (3, mm_X6_visit, 59, [.ref 33, .int v1, .int v2, .int v3, .int v4, .int v5, v6, v7, v8], [.int s0]) h = (mx_C mm_X6_truthOf [.ref 33, .int s0] h).bind (fun o => mx_D (3, mm_X6_visit, 67, [.ref 33, .int v1, .int v2, .int v3, .int v4, .int v5, .int s0, v7, v8], o.1.toList ++ []) o.2) := by
  refine Eq.trans (q_istore (L' := [.ref 33, .int v1, .int v2, .int v3, .int v4, .int v5, .int s0, v7, v8]) dX6_visit_59 (Nat.le_of_ble_eq_true rfl) rfl) ?_
  refine Eq.trans (q_aload_n dX6_visit_61 rfl rfl) ?_
  refine Eq.trans (q_iload dX6_visit_62 rfl) ?_
  exact q_call0 (as := [.int s0]) (rest := []) dX6_visit_64 mx_inv_6_52 rfl rfl rfl ⟨Nat.le_of_ble_eq_true rfl, Nat.le_of_ble_eq_true rfl, (Nat.le_of_ble_eq_true rfl)⟩
theorem e_X6_visit_67 (v1 : Int32) (v2 : Int32) (v3 : Int32) (v4 : Int32) (v5 : Int32) (v6 : Int32) (v7 : Value) (v8 : Value) (s0 : Int32) (h : mx_H)  : mx_D (3, mm_X6_visit, 67, [.ref 33, .int v1, .int v2, .int v3, .int v4, .int v5, .int v6, v7, v8], [.int s0]) h = if v2 = ((-1)) then if s0 = 1 then mx_D (3, mm_X6_visit, 80, [.ref 33, .int v1, .int v2, .int v3, .int v4, .int v5, .int v6, .int s0, v8], []) h else ((mx_C mm_X6_openPlace [.ref 33, .int (v3 >>> (1 &&& 31))] h).bind (fun o => mx_D (3, mm_X6_visit, 91, [.ref 33, .int v1, .int v2, .int v3, .int v4, .int v5, .int v6, .int s0, v8], o.1.toList ++ []) o.2)) else (mx_D (3, mm_X6_visit, 80, [.ref 33, .int v1, .int v2, .int v3, .int v4, .int v5, .int v6, .int s0, v8], []) h) := by
  refine Eq.trans (q_istore (L' := [.ref 33, .int v1, .int v2, .int v3, .int v4, .int v5, .int v6, .int s0, v8]) dX6_visit_67 (Nat.le_of_ble_eq_true rfl) rfl) ?_
  refine Eq.trans (q_iload_n dX6_visit_69 rfl) ?_
  refine Eq.trans (q_iconst (x := (-1)) dX6_visit_70 rfl) ?_
  refine Eq.trans (q_icmp_ne 80 dX6_visit_71 rfl) (q_ite2 ?_ ?_)
  · refine Eq.trans (q_iload dX6_visit_74 rfl) ?_
    refine Eq.trans (q_iconst (x := 1) dX6_visit_76 rfl) ?_
    refine Eq.trans (q_icmp_ne 84 dX6_visit_77 rfl) (q_ite2 ?_ ?_)
    · rfl
    · refine Eq.trans (q_aload_n dX6_visit_84 rfl rfl) ?_
      refine Eq.trans (q_iload_n dX6_visit_85 rfl) ?_
      refine Eq.trans (q_iconst (x := 1) dX6_visit_86 rfl) ?_
      refine Eq.trans (q_ishr dX6_visit_87) ?_
      exact q_call0 (as := [.int (v3 >>> (1 &&& 31))]) (rest := []) dX6_visit_88 mx_inv_6_122 rfl rfl rfl ⟨Nat.le_of_ble_eq_true rfl, Nat.le_of_ble_eq_true rfl, (Nat.le_of_ble_eq_true rfl)⟩
  · rfl
theorem e_X6_visit_80 (v1 : Int32) (v2 : Int32) (v3 : Int32) (v4 : Int32) (v5 : Int32) (v6 : Int32) (v7 : Int32) (v8 : Value) (h : mx_H)  : mx_D (3, mm_X6_visit, 80, [.ref 33, .int v1, .int v2, .int v3, .int v4, .int v5, .int v6, .int v7, v8], []) h = mx_D (3, mm_X6_visit, 91, [.ref 33, .int v1, .int v2, .int v3, .int v4, .int v5, .int v6, .int v7, v8], [.int ((-1))]) h := by
  refine Eq.trans (q_iconst (x := (-1)) dX6_visit_80 rfl) ?_
  refine Eq.trans (q_goto 91 dX6_visit_81 rfl) ?_
  rfl
theorem e_X6_visit_91 (v1 : Int32) (v2 : Int32) (v3 : Int32) (v4 : Int32) (v5 : Int32) (v6 : Int32) (v7 : Int32) (v8 : Value) (s0 : Int32) (h : mx_H)  : mx_D (3, mm_X6_visit, 91, [.ref 33, .int v1, .int v2, .int v3, .int v4, .int v5, .int v6, .int v7, v8], [.int s0]) h = if s0 = ((-1)) then (mx_C mm_X2_watch [.ref 34, .int v3] h).bind (fun o => mx_D (3, mm_X6_visit, 120, [.ref 33, .int v1, .int v2, .int v3, .int v4, .int v5, .int v6, .int v7, .int s0], o.1.toList ++ []) o.2) else ((mx_C mm_X2_exchange [.ref 34, .int v3, .int s0] h).bind (fun o => mx_D (3, mm_X6_visit, 109, [.ref 33, .int v1, .int v2, .int v3, .int v4, .int v5, .int v6, .int v7, .int s0], o.1.toList ++ []) o.2)) := by
  refine Eq.trans (q_istore (L' := [.ref 33, .int v1, .int v2, .int v3, .int v4, .int v5, .int v6, .int v7, .int s0]) dX6_visit_91 (Nat.le_of_ble_eq_true rfl) rfl) ?_
  refine Eq.trans (q_iload dX6_visit_93 rfl) ?_
  refine Eq.trans (q_iconst (x := (-1)) dX6_visit_95 rfl) ?_
  refine Eq.trans (q_icmp_eq 112 dX6_visit_96 rfl) (q_ite2 ?_ ?_)
  · refine Eq.trans (q_aload_n dX6_visit_112 rfl rfl) ?_
    refine Eq.trans (q_getf dX6_visit_113 mx_fld_6_12 (gf_33_1 _)) ?_
    refine Eq.trans (q_iload_n dX6_visit_116 rfl) ?_
    exact q_call0 (as := [.int v3]) (rest := []) dX6_visit_117 mx_inv_6_128 rfl rfl rfl ⟨Nat.le_of_ble_eq_true rfl, Nat.le_of_ble_eq_true rfl, (Nat.le_of_ble_eq_true rfl)⟩
  · refine Eq.trans (q_aload_n dX6_visit_99 rfl rfl) ?_
    refine Eq.trans (q_getf dX6_visit_100 mx_fld_6_12 (gf_33_1 _)) ?_
    refine Eq.trans (q_iload_n dX6_visit_103 rfl) ?_
    refine Eq.trans (q_iload dX6_visit_104 rfl) ?_
    exact q_call0 (as := [.int v3, .int s0]) (rest := []) dX6_visit_106 mx_inv_6_125 rfl rfl rfl ⟨Nat.le_of_ble_eq_true rfl, Nat.le_of_ble_eq_true rfl, (Nat.le_of_ble_eq_true rfl)⟩
theorem e_X6_visit_109 (v1 : Int32) (v2 : Int32) (v3 : Int32) (v4 : Int32) (v5 : Int32) (v6 : Int32) (v7 : Int32) (v8 : Int32) (h : mx_H)  : mx_D (3, mm_X6_visit, 109, [.ref 33, .int v1, .int v2, .int v3, .int v4, .int v5, .int v6, .int v7, .int v8], []) h = mx_D (3, mm_X6_visit, 157, [.ref 33, .int v1, .int v2, .int v3, .int v4, .int v5, .int v6, .int v7, .int v8], []) h := by
  refine Eq.trans (q_goto 157 dX6_visit_109 rfl) ?_
  rfl
theorem e_X6_visit_120 (v1 : Int32) (v2 : Int32) (v3 : Int32) (v4 : Int32) (v5 : Int32) (v6 : Int32) (v7 : Int32) (v8 : Int32) (h : mx_H)  : mx_D (3, mm_X6_visit, 120, [.ref 33, .int v1, .int v2, .int v3, .int v4, .int v5, .int v6, .int v7, .int v8], []) h = if v2 = ((-1)) then if v7 = 0 then mx_D (3, mm_X6_visit, 157, [.ref 33, .int v1, .int (v3 >>> (1 &&& 31)), .int v3, .int v4, .int v5, .int v6, .int v7, .int v8], []) h else (mx_D (3, mm_X6_visit, 137, [.ref 33, .int v1, .int v2, .int v3, .int v4, .int v5, .int v6, .int v7, .int v8], []) h) else (mx_D (3, mm_X6_visit, 137, [.ref 33, .int v1, .int v2, .int v3, .int v4, .int v5, .int v6, .int v7, .int v8], []) h) := by
  refine Eq.trans (q_iload_n dX6_visit_120 rfl) ?_
  refine Eq.trans (q_iconst (x := (-1)) dX6_visit_121 rfl) ?_
  refine Eq.trans (q_icmp_ne 137 dX6_visit_122 rfl) (q_ite2 ?_ ?_)
  · refine Eq.trans (q_iload dX6_visit_125 rfl) ?_
    refine Eq.trans (q_if_ne 137 dX6_visit_127 rfl) (q_ite2 ?_ ?_)
    · refine Eq.trans (q_iload_n dX6_visit_130 rfl) ?_
      refine Eq.trans (q_iconst (x := 1) dX6_visit_131 rfl) ?_
      refine Eq.trans (q_ishr dX6_visit_132) ?_
      refine Eq.trans (q_istore_n (L' := [.ref 33, .int v1, .int (v3 >>> (1 &&& 31)), .int v3, .int v4, .int v5, .int v6, .int v7, .int v8]) dX6_visit_133 (Nat.le_of_ble_eq_true rfl) rfl) ?_
      refine Eq.trans (q_goto 157 dX6_visit_134 rfl) ?_
      rfl
    · rfl
  · rfl
theorem e_X6_visit_137 (v1 : Int32) (v2 : Int32) (v3 : Int32) (v4 : Int32) (v5 : Int32) (v6 : Int32) (v7 : Int32) (v8 : Int32) (h : mx_H)  : mx_D (3, mm_X6_visit, 137, [.ref 33, .int v1, .int v2, .int v3, .int v4, .int v5, .int v6, .int v7, .int v8], []) h = if v2 = ((-1)) then if v7 = 2 then (mx_C mm_X6_assign [.ref 33, .int v6, .int (v3 >>> (1 &&& 31))] h).bind (fun o => mx_D (3, mm_X6_visit, 157, [.ref 33, .int v1, .int v2, .int v3, .int v4, .int v5, .int v6, .int v7, .int v8], o.1.toList ++ []) o.2) else (mx_D (3, mm_X6_visit, 157, [.ref 33, .int v1, .int v2, .int v3, .int v4, .int v5, .int v6, .int v7, .int v8], []) h) else (mx_D (3, mm_X6_visit, 157, [.ref 33, .int v1, .int v2, .int v3, .int v4, .int v5, .int v6, .int v7, .int v8], []) h) := by
  refine Eq.trans (q_iload_n dX6_visit_137 rfl) ?_
  refine Eq.trans (q_iconst (x := (-1)) dX6_visit_138 rfl) ?_
  refine Eq.trans (q_icmp_ne 157 dX6_visit_139 rfl) (q_ite2 ?_ ?_)
  · refine Eq.trans (q_iload dX6_visit_142 rfl) ?_
    refine Eq.trans (q_iconst (x := 2) dX6_visit_144 rfl) ?_
    refine Eq.trans (q_icmp_ne 157 dX6_visit_145 rfl) (q_ite2 ?_ ?_)
    · refine Eq.trans (q_aload_n dX6_visit_148 rfl rfl) ?_
      refine Eq.trans (q_iload dX6_visit_149 rfl) ?_
      refine Eq.trans (q_iload_n dX6_visit_151 rfl) ?_
      refine Eq.trans (q_iconst (x := 1) dX6_visit_152 rfl) ?_
      refine Eq.trans (q_ishr dX6_visit_153) ?_
      exact q_call0 (as := [.int v6, .int (v3 >>> (1 &&& 31))]) (rest := []) dX6_visit_154 mx_inv_6_56 rfl rfl rfl ⟨Nat.le_of_ble_eq_true rfl, Nat.le_of_ble_eq_true rfl, (Nat.le_of_ble_eq_true rfl)⟩
    · rfl
  · rfl
theorem e_X6_visit_157 (v1 : Int32) (v2 : Int32) (v3 : Int32) (v4 : Int32) (v5 : Int32) (v6 : Int32) (v7 : Int32) (v8 : Int32) (h : mx_H)  : mx_D (3, mm_X6_visit, 157, [.ref 33, .int v1, .int v2, .int v3, .int v4, .int v5, .int v6, .int v7, .int v8], []) h = mx_D (3, mm_X6_visit, 25, [.ref 33, .int v1, .int v2, .int v5, .int (v4 + 1), .int v5, .int v6, .int v7, .int v8], []) h := by
  refine Eq.trans (q_iload dX6_visit_157 rfl) ?_
  refine Eq.trans (q_istore_n (L' := [.ref 33, .int v1, .int v2, .int v5, .int v4, .int v5, .int v6, .int v7, .int v8]) dX6_visit_159 (Nat.le_of_ble_eq_true rfl) rfl) ?_
  refine Eq.trans (q_iinc (x' := 1) (L' := [.ref 33, .int v1, .int v2, .int v5, .int (v4 + 1), .int v5, .int v6, .int v7, .int v8]) dX6_visit_160 rfl rfl rfl) ?_
  refine Eq.trans (q_goto 25 dX6_visit_163 rfl) ?_
  rfl
theorem e_X6_visit_166 (v1 : Int32) (v2 : Int32) (v3 : Int32) (v4 : Int32) (v5 : Value) (v6 : Value) (v7 : Value) (v8 : Value) (h : mx_H)  : mx_D (3, mm_X6_visit, 166, [.ref 33, .int v1, .int v2, .int v3, .int v4, v5, v6, v7, v8], []) h = some (some (.int v2), h) := by
  refine Eq.trans (q_iload_n dX6_visit_166 rfl) ?_
  exact q_retI dX6_visit_167 rfl
theorem e_X6_openPlace_0 (v1 : Int32) (h : mx_H)  : mx_D (2, mm_X6_openPlace, 0, [.ref 33, .int v1, mx_junk], []) h = if mx_in v1 4517 = true then mx_D (2, mm_X6_openPlace, 12, [.ref 33, .int v1, .int ((h.1 36 v1.toNatClampNeg) + 2)], []) h else none := by
  refine Eq.trans (q_aload_n dX6_openPlace_0 rfl rfl) ?_
  refine Eq.trans (q_getf dX6_openPlace_1 mx_fld_6_12 (gf_33_1 _)) ?_
  refine Eq.trans (q_getf dX6_openPlace_4 mx_fld_6_131 (gf_34_1 _)) ?_
  refine Eq.trans (q_iload_n dX6_openPlace_7 rfl) ?_
  refine Eq.trans (q_ld (w := 0) (by decide) dX6_openPlace_8 (al_36 _ _)) (q_ite ?_)
  refine Eq.trans (q_iconst (x := 2) dX6_openPlace_9 rfl) ?_
  refine Eq.trans (q_iadd dX6_openPlace_10) ?_
  refine Eq.trans (q_istore_n (L' := [.ref 33, .int v1, .int ((h.1 36 v1.toNatClampNeg) + 2)]) dX6_openPlace_11 (Nat.le_of_ble_eq_true rfl) rfl) ?_
  rfl
theorem c_X6_openPlace (v1 : Int32) (h : mx_H) : mx_C mm_X6_openPlace [.ref 33, .int v1] h = mx_D (2, mm_X6_openPlace, 0, [.ref 33, .int v1, mx_junk], []) h := rfl
theorem e_X6_openPlace_12 (v1 : Int32) (v2 : Int32) (h : mx_H)  : mx_D (2, mm_X6_openPlace, 12, [.ref 33, .int v1, .int v2], []) h = if mx_in (v1 + 1) 4517 = true then if (h.1 36 ((v1 + 1).toNatClampNeg)) ≤ v2 then some (some (.int ((-1))), h) else (if mx_in v2 14828 = true then (mx_C mm_X6_truthOf [.ref 33, .int (h.1 35 v2.toNatClampNeg)] h).bind (fun o => mx_D (2, mm_X6_openPlace, 40, [.ref 33, .int v1, .int v2], o.1.toList ++ []) o.2) else none) else none := by
  refine Eq.trans (q_iload_n dX6_openPlace_12 rfl) ?_
  refine Eq.trans (q_aload_n dX6_openPlace_13 rfl rfl) ?_
  refine Eq.trans (q_getf dX6_openPlace_14 mx_fld_6_12 (gf_33_1 _)) ?_
  refine Eq.trans (q_getf dX6_openPlace_17 mx_fld_6_131 (gf_34_1 _)) ?_
  refine Eq.trans (q_iload_n dX6_openPlace_20 rfl) ?_
  refine Eq.trans (q_iconst (x := 1) dX6_openPlace_21 rfl) ?_
  refine Eq.trans (q_iadd dX6_openPlace_22) ?_
  refine Eq.trans (q_ld (w := 0) (by decide) dX6_openPlace_23 (al_36 _ _)) (q_ite ?_)
  refine Eq.trans (q_icmp_ge 51 dX6_openPlace_24 rfl) (q_ite2 ?_ ?_)
  · refine Eq.trans (q_iconst (x := (-1)) dX6_openPlace_51 rfl) ?_
    exact q_retI dX6_openPlace_52 rfl
  · refine Eq.trans (q_aload_n dX6_openPlace_27 rfl rfl) ?_
    refine Eq.trans (q_aload_n dX6_openPlace_28 rfl rfl) ?_
    refine Eq.trans (q_getf dX6_openPlace_29 mx_fld_6_12 (gf_33_1 _)) ?_
    refine Eq.trans (q_getf dX6_openPlace_32 mx_fld_6_134 (gf_34_0 _)) ?_
    refine Eq.trans (q_iload_n dX6_openPlace_35 rfl) ?_
    refine Eq.trans (q_ld (w := 0) (by decide) dX6_openPlace_36 (al_35 _ _)) (q_ite ?_)
    exact q_call0 (as := [.int (h.1 35 v2.toNatClampNeg)]) (rest := []) dX6_openPlace_37 mx_inv_6_52 rfl rfl rfl ⟨Nat.le_of_ble_eq_true rfl, Nat.le_of_ble_eq_true rfl, (Nat.le_of_ble_eq_true rfl)⟩
theorem e_X6_openPlace_40 (v1 : Int32) (v2 : Int32) (s0 : Int32) (h : mx_H)  : mx_D (2, mm_X6_openPlace, 40, [.ref 33, .int v1, .int v2], [.int s0]) h = if s0 = 0 then mx_D (2, mm_X6_openPlace, 12, [.ref 33, .int v1, .int (v2 + 1)], []) h else (some (some (.int v2), h)) := by
  refine Eq.trans (q_if_eq 45 dX6_openPlace_40 rfl) (q_ite2 ?_ ?_)
  · refine Eq.trans (q_iinc (x' := 1) (L' := [.ref 33, .int v1, .int (v2 + 1)]) dX6_openPlace_45 rfl rfl rfl) ?_
    refine Eq.trans (q_goto 12 dX6_openPlace_48 rfl) ?_
    rfl
  · refine Eq.trans (q_iload_n dX6_openPlace_43 rfl) ?_
    exact q_retI dX6_openPlace_44 rfl
theorem e_X6_decide_0  (h : mx_H)  : mx_D (2, mm_X6_decide, 0, [.ref 33, mx_junk], []) h = mx_D (2, mm_X6_decide, 2, [.ref 33, .int 0], []) h := by
  refine Eq.trans (q_iconst (x := 0) dX6_decide_0 rfl) ?_
  refine Eq.trans (q_istore_n (L' := [.ref 33, .int 0]) dX6_decide_1 (Nat.le_of_ble_eq_true rfl) rfl) ?_
  rfl
theorem c_X6_decide  (h : mx_H) : mx_C mm_X6_decide [.ref 33] h = mx_D (2, mm_X6_decide, 0, [.ref 33, mx_junk], []) h := rfl
theorem e_X6_decide_2 (v1 : Int32) (h : mx_H)  : mx_D (2, mm_X6_decide, 2, [.ref 33, .int v1], []) h = if (h.1 33 3) ≤ v1 then some (some (.int 0), h) else (if mx_in v1 8 = true then if mx_in (h.1 39 v1.toNatClampNeg) 1065 = true then if (h.1 41 ((h.1 39 v1.toNatClampNeg).toNatClampNeg)) = 2 then if mx_in v1 8 = true then (mx_C mm_X6_assign [.ref 33, .int ((2 * ((mx_u h.1 33 11 ((h.1 33 11) + 1)) 39 v1.toNatClampNeg)) + 1), .int ((-2))] ((mx_u h.1 33 11 ((h.1 33 11) + 1)), h.2.1, h.2.2)).bind (fun o => mx_D (2, mm_X6_decide, 51, [.ref 33, .int v1], o.1.toList ++ []) o.2) else none else (mx_D (2, mm_X6_decide, 2, [.ref 33, .int (v1 + 1)], []) h) else none else none) := by
  refine Eq.trans (q_iload_n dX6_decide_2 rfl) ?_
  refine Eq.trans (q_aload_n dX6_decide_3 rfl rfl) ?_
  refine Eq.trans (q_getf dX6_decide_4 mx_fld_6_45 (gf_33_3 _)) ?_
  refine Eq.trans (q_icmp_ge 59 dX6_decide_7 rfl) (q_ite2 ?_ ?_)
  · refine Eq.trans (q_iconst (x := 0) dX6_decide_59 rfl) ?_
    exact Eq.trans (q_ret dX6_decide_60 rfl) (if_pos rfl)
  · refine Eq.trans (q_aload_n dX6_decide_10 rfl rfl) ?_
    refine Eq.trans (q_getf dX6_decide_11 mx_fld_6_26 (gf_33_5 _)) ?_
    refine Eq.trans (q_aload_n dX6_decide_14 rfl rfl) ?_
    refine Eq.trans (q_getf dX6_decide_15 mx_fld_6_18 (gf_33_2 _)) ?_
    refine Eq.trans (q_iload_n dX6_decide_18 rfl) ?_
    refine Eq.trans (q_ld (w := 0) (by decide) dX6_decide_19 (al_39 _ _)) (q_ite ?_)
    refine Eq.trans (q_ld (w := 0) (by decide) dX6_decide_20 (al_41 _ _)) (q_ite ?_)
    refine Eq.trans (q_iconst (x := 2) dX6_decide_21 rfl) ?_
    refine Eq.trans (q_icmp_ne 53 dX6_decide_22 rfl) (q_ite2 ?_ ?_)
    · refine Eq.trans (q_aload_n dX6_decide_25 rfl rfl) ?_
      refine Eq.trans (q_dup dX6_decide_26 rfl) ?_
      refine Eq.trans (q_getf dX6_decide_27 mx_fld_6_91 (gf_33_11 _)) ?_
      refine Eq.trans (q_iconst (x := 1) dX6_decide_30 rfl) ?_
      refine Eq.trans (q_iadd dX6_decide_31) ?_
      refine Eq.trans (q_putf dX6_decide_32 mx_fld_6_91 (pf_33_11 _ _)) ?_
      refine Eq.trans (q_aload_n dX6_decide_35 rfl rfl) ?_
      refine Eq.trans (q_iconst (x := 2) dX6_decide_36 rfl) ?_
      refine Eq.trans (q_aload_n dX6_decide_37 rfl rfl) ?_
      refine Eq.trans (q_getf dX6_decide_38 mx_fld_6_18 (gf_33_2 _)) ?_
      refine Eq.trans (q_iload_n dX6_decide_41 rfl) ?_
      refine Eq.trans (q_ld (w := 0) (by decide) dX6_decide_42 (al_39 _ _)) (q_ite ?_)
      refine Eq.trans (q_imul dX6_decide_43) ?_
      refine Eq.trans (q_iconst (x := 1) dX6_decide_44 rfl) ?_
      refine Eq.trans (q_iadd dX6_decide_45) ?_
      refine Eq.trans (q_bipush (x := (-2)) dX6_decide_46 rfl) ?_
      exact q_call0 (as := [.int ((2 * ((mx_u h.1 33 11 ((h.1 33 11) + 1)) 39 v1.toNatClampNeg)) + 1), .int ((-2))]) (rest := []) dX6_decide_48 mx_inv_6_56 rfl rfl rfl ⟨Nat.le_of_ble_eq_true rfl, Nat.le_of_ble_eq_true rfl, (Nat.le_of_ble_eq_true rfl)⟩
    · refine Eq.trans (q_iinc (x' := 1) (L' := [.ref 33, .int (v1 + 1)]) dX6_decide_53 rfl rfl rfl) ?_
      refine Eq.trans (q_goto 2 dX6_decide_56 rfl) ?_
      rfl
theorem e_X6_decide_51 (v1 : Int32) (h : mx_H)  : mx_D (2, mm_X6_decide, 51, [.ref 33, .int v1], []) h = some (some (.int 1), h) := by
  refine Eq.trans (q_iconst (x := 1) dX6_decide_51 rfl) ?_
  exact Eq.trans (q_ret dX6_decide_52 rfl) (if_pos rfl)
theorem e_X6_learnFrom_0 (v1 : Int32) (h : mx_H)  : mx_D (13, mm_X6_learnFrom, 0, [.ref 33, .int v1, mx_junk, mx_junk, mx_junk], []) h = (mx_C mm_X6_collectDecisions [.ref 33, .int v1] h).bind (fun o => mx_D (13, mm_X6_learnFrom, 5, [.ref 33, .int v1, mx_junk, mx_junk, mx_junk], o.1.toList ++ []) o.2) := by
  refine Eq.trans (q_aload_n dX6_learnFrom_0 rfl rfl) ?_
  refine Eq.trans (q_iload_n dX6_learnFrom_1 rfl) ?_
  exact q_call0 (as := [.int v1]) (rest := []) dX6_learnFrom_2 mx_inv_6_137 rfl rfl rfl ⟨Nat.le_of_ble_eq_true rfl, Nat.le_of_ble_eq_true rfl, (Nat.le_of_ble_eq_true rfl)⟩
theorem c_X6_learnFrom (v1 : Int32) (h : mx_H) : mx_C mm_X6_learnFrom [.ref 33, .int v1] h = mx_D (13, mm_X6_learnFrom, 0, [.ref 33, .int v1, mx_junk, mx_junk, mx_junk], []) h := rfl
theorem e_X6_learnFrom_5 (v1 : Int32) (h : mx_H)  : mx_D (13, mm_X6_learnFrom, 5, [.ref 33, .int v1, mx_junk, mx_junk, mx_junk], []) h = if (h.1 33 13) = 0 then some (some (.int 0), h) else (if (h.1 33 13) ≤ 1 then mx_D (13, mm_X6_learnFrom, 80, [.ref 33, .int v1, .int ((-1)), .int 0, mx_junk], []) h else (if mx_in 1 8 = true then if mx_in ((h.1 45 ((1 : Int32).toNatClampNeg)) >>> (1 &&& 31)) 1065 = true then mx_D (13, mm_X6_learnFrom, 43, [.ref 33, .int v1, .int ((-1)), .int (h.1 42 (((h.1 45 ((1 : Int32).toNatClampNeg)) >>> (1 &&& 31)).toNatClampNeg)), .int 0], []) h else none else none)) := by
  refine Eq.trans (q_aload_n dX6_learnFrom_5 rfl rfl) ?_
  refine Eq.trans (q_getf dX6_learnFrom_6 mx_fld_6_140 (gf_33_13 _)) ?_
  refine Eq.trans (q_if_ne 14 dX6_learnFrom_9 rfl) (q_ite2 ?_ ?_)
  · refine Eq.trans (q_iconst (x := 0) dX6_learnFrom_12 rfl) ?_
    exact Eq.trans (q_ret dX6_learnFrom_13 rfl) (if_pos rfl)
  · refine Eq.trans (q_iconst (x := (-1)) dX6_learnFrom_14 rfl) ?_
    refine Eq.trans (q_istore_n (L' := [.ref 33, .int v1, .int ((-1)), mx_junk, mx_junk]) dX6_learnFrom_15 (Nat.le_of_ble_eq_true rfl) rfl) ?_
    refine Eq.trans (q_iconst (x := 0) dX6_learnFrom_16 rfl) ?_
    refine Eq.trans (q_istore_n (L' := [.ref 33, .int v1, .int ((-1)), .int 0, mx_junk]) dX6_learnFrom_17 (Nat.le_of_ble_eq_true rfl) rfl) ?_
    refine Eq.trans (q_aload_n dX6_learnFrom_18 rfl rfl) ?_
    refine Eq.trans (q_getf dX6_learnFrom_19 mx_fld_6_140 (gf_33_13 _)) ?_
    refine Eq.trans (q_iconst (x := 1) dX6_learnFrom_22 rfl) ?_
    refine Eq.trans (q_icmp_le 80 dX6_learnFrom_23 rfl) (q_ite2 ?_ ?_)
    · rfl
    · refine Eq.trans (q_aload_n dX6_learnFrom_26 rfl rfl) ?_
      refine Eq.trans (q_getf dX6_learnFrom_27 mx_fld_6_29 (gf_33_6 _)) ?_
      refine Eq.trans (q_aload_n dX6_learnFrom_30 rfl rfl) ?_
      refine Eq.trans (q_getf dX6_learnFrom_31 mx_fld_6_38 (gf_33_12 _)) ?_
      refine Eq.trans (q_iconst (x := 1) dX6_learnFrom_34 rfl) ?_
      refine Eq.trans (q_ld (w := 0) (by decide) dX6_learnFrom_35 (al_45 _ _)) (q_ite ?_)
      refine Eq.trans (q_iconst (x := 1) dX6_learnFrom_36 rfl) ?_
      refine Eq.trans (q_ishr dX6_learnFrom_37) ?_
      refine Eq.trans (q_ld (w := 0) (by decide) dX6_learnFrom_38 (al_42 _ _)) (q_ite ?_)
      refine Eq.trans (q_istore_n (L' := [.ref 33, .int v1, .int ((-1)), .int (h.1 42 (((h.1 45 ((1 : Int32).toNatClampNeg)) >>> (1 &&& 31)).toNatClampNeg)), mx_junk]) dX6_learnFrom_39 (Nat.le_of_ble_eq_true rfl) rfl) ?_
      refine Eq.trans (q_iconst (x := 0) dX6_learnFrom_40 rfl) ?_
      refine Eq.trans (q_istore (L' := [.ref 33, .int v1, .int ((-1)), .int (h.1 42 (((h.1 45 ((1 : Int32).toNatClampNeg)) >>> (1 &&& 31)).toNatClampNeg)), .int 0]) dX6_learnFrom_41 (Nat.le_of_ble_eq_true rfl) rfl) ?_
      rfl
theorem e_X6_learnFrom_43 (v1 : Int32) (v2 : Int32) (v3 : Int32) (v4 : Int32) (h : mx_H)  : mx_D (13, mm_X6_learnFrom, 43, [.ref 33, .int v1, .int v2, .int v3, .int v4], []) h = if (h.1 33 13) ≤ v4 then (mx_C mm_X2_finish [.ref 34] h).bind (fun o => mx_D (13, mm_X6_learnFrom, 79, [.ref 33, .int v1, .int v2, .int v3, .int v4], o.1.toList ++ []) o.2) else (if mx_in v4 8 = true then (mx_C mm_X2_gather [.ref 34, .int (h.1 45 v4.toNatClampNeg)] h).bind (fun o => mx_D (13, mm_X6_learnFrom, 66, [.ref 33, .int v1, .int v2, .int v3, .int v4], o.1.toList ++ []) o.2) else none) := by
  refine Eq.trans (q_iload dX6_learnFrom_43 rfl) ?_
  refine Eq.trans (q_aload_n dX6_learnFrom_45 rfl rfl) ?_
  refine Eq.trans (q_getf dX6_learnFrom_46 mx_fld_6_140 (gf_33_13 _)) ?_
  refine Eq.trans (q_icmp_ge 72 dX6_learnFrom_49 rfl) (q_ite2 ?_ ?_)
  · refine Eq.trans (q_aload_n dX6_learnFrom_72 rfl rfl) ?_
    refine Eq.trans (q_getf dX6_learnFrom_73 mx_fld_6_12 (gf_33_1 _)) ?_
    exact q_call0 (as := []) (rest := []) dX6_learnFrom_76 mx_inv_6_146 rfl rfl rfl ⟨Nat.le_of_ble_eq_true rfl, Nat.le_of_ble_eq_true rfl, (Nat.le_of_ble_eq_true rfl)⟩
  · refine Eq.trans (q_aload_n dX6_learnFrom_52 rfl rfl) ?_
    refine Eq.trans (q_getf dX6_learnFrom_53 mx_fld_6_12 (gf_33_1 _)) ?_
    refine Eq.trans (q_aload_n dX6_learnFrom_56 rfl rfl) ?_
    refine Eq.trans (q_getf dX6_learnFrom_57 mx_fld_6_38 (gf_33_12 _)) ?_
    refine Eq.trans (q_iload dX6_learnFrom_60 rfl) ?_
    refine Eq.trans (q_ld (w := 0) (by decide) dX6_learnFrom_62 (al_45 _ _)) (q_ite ?_)
    exact q_call0 (as := [.int (h.1 45 v4.toNatClampNeg)]) (rest := []) dX6_learnFrom_63 mx_inv_6_143 rfl rfl rfl ⟨Nat.le_of_ble_eq_true rfl, Nat.le_of_ble_eq_true rfl, (Nat.le_of_ble_eq_true rfl)⟩
theorem e_X6_learnFrom_66 (v1 : Int32) (v2 : Int32) (v3 : Int32) (v4 : Int32) (h : mx_H)  : mx_D (13, mm_X6_learnFrom, 66, [.ref 33, .int v1, .int v2, .int v3, .int v4], []) h = mx_D (13, mm_X6_learnFrom, 43, [.ref 33, .int v1, .int v2, .int v3, .int (v4 + 1)], []) h := by
  refine Eq.trans (q_iinc (x' := 1) (L' := [.ref 33, .int v1, .int v2, .int v3, .int (v4 + 1)]) dX6_learnFrom_66 rfl rfl rfl) ?_
  refine Eq.trans (q_goto 43 dX6_learnFrom_69 rfl) ?_
  rfl
theorem e_X6_learnFrom_79 (v1 : Int32) (v2 : Int32) (v3 : Int32) (v4 : Int32) (s0 : Int32) (h : mx_H)  : mx_D (13, mm_X6_learnFrom, 79, [.ref 33, .int v1, .int v2, .int v3, .int v4], [.int s0]) h = mx_D (13, mm_X6_learnFrom, 80, [.ref 33, .int v1, .int s0, .int v3, .int v4], []) h := by
  refine Eq.trans (q_istore_n (L' := [.ref 33, .int v1, .int s0, .int v3, .int v4]) dX6_learnFrom_79 (Nat.le_of_ble_eq_true rfl) rfl) ?_
  rfl
theorem e_X6_learnFrom_80 (v1 : Int32) (v2 : Int32) (v3 : Int32) (v4 : Value) (h : mx_H)  : mx_D (13, mm_X6_learnFrom, 80, [.ref 33, .int v1, .int v2, .int v3, v4], []) h = (mx_C mm_X6_goBack [.ref 33, .int v3] h).bind (fun o => mx_D (13, mm_X6_learnFrom, 85, [.ref 33, .int v1, .int v2, .int v3, v4], o.1.toList ++ []) o.2) := by
  refine Eq.trans (q_aload_n dX6_learnFrom_80 rfl rfl) ?_
  refine Eq.trans (q_iload_n dX6_learnFrom_81 rfl) ?_
  exact q_call0 (as := [.int v3]) (rest := []) dX6_learnFrom_82 mx_inv_6_149 rfl rfl rfl ⟨Nat.le_of_ble_eq_true rfl, Nat.le_of_ble_eq_true rfl, (Nat.le_of_ble_eq_true rfl)⟩
theorem e_X6_learnFrom_85 (v1 : Int32) (v2 : Int32) (v3 : Int32) (v4 : Value) (h : mx_H)  : mx_D (13, mm_X6_learnFrom, 85, [.ref 33, .int v1, .int v2, .int v3, v4], []) h = if mx_in 0 8 = true then (mx_C mm_X6_assign [.ref 33, .int (h.1 45 ((0 : Int32).toNatClampNeg)), .int v2] h).bind (fun o => mx_D (13, mm_X6_learnFrom, 96, [.ref 33, .int v1, .int v2, .int v3, v4], o.1.toList ++ []) o.2) else none := by
  refine Eq.trans (q_aload_n dX6_learnFrom_85 rfl rfl) ?_
  refine Eq.trans (q_aload_n dX6_learnFrom_86 rfl rfl) ?_
  refine Eq.trans (q_getf dX6_learnFrom_87 mx_fld_6_38 (gf_33_12 _)) ?_
  refine Eq.trans (q_iconst (x := 0) dX6_learnFrom_90 rfl) ?_
  refine Eq.trans (q_ld (w := 0) (by decide) dX6_learnFrom_91 (al_45 _ _)) (q_ite ?_)
  refine Eq.trans (q_iload_n dX6_learnFrom_92 rfl) ?_
  exact q_call0 (as := [.int (h.1 45 ((0 : Int32).toNatClampNeg)), .int v2]) (rest := []) dX6_learnFrom_93 mx_inv_6_56 rfl rfl rfl ⟨Nat.le_of_ble_eq_true rfl, Nat.le_of_ble_eq_true rfl, (Nat.le_of_ble_eq_true rfl)⟩
