theorem e_X7_has_0 (v1 : Int32) (h : mx_H)  : mx_D (1, mm_X7_has, 0, [.ref 6, .int v1], []) h = if v1 < 0 then mx_D (1, mm_X7_has, 16, [.ref 6, .int v1], []) h else (if (h.1 6 4) ≤ v1 then mx_D (1, mm_X7_has, 16, [.ref 6, .int v1], []) h else (mx_D (1, mm_X7_has, 17, [.ref 6, .int v1], [.int 1]) h)) := by
  refine Eq.trans (q_iload_n dX7_has_0 rfl) ?_
  refine Eq.trans (q_if_lt 16 dX7_has_1 rfl) (q_ite2 ?_ ?_)
  · rfl
  · refine Eq.trans (q_iload_n dX7_has_4 rfl) ?_
    refine Eq.trans (q_aload_n dX7_has_5 rfl rfl) ?_
    refine Eq.trans (q_getf dX7_has_6 mx_fld_7_27 (gf_6_4 _)) ?_
    refine Eq.trans (q_icmp_ge 16 dX7_has_9 rfl) (q_ite2 ?_ ?_)
    · rfl
    · refine Eq.trans (q_iconst (x := 1) dX7_has_12 rfl) ?_
      refine Eq.trans (q_goto 17 dX7_has_13 rfl) ?_
      rfl
theorem c_X7_has (v1 : Int32) (h : mx_H) : mx_C mm_X7_has [.ref 6, .int v1] h = mx_D (1, mm_X7_has, 0, [.ref 6, .int v1], []) h := rfl
theorem e_X7_has_16 (v1 : Int32) (h : mx_H)  : mx_D (1, mm_X7_has, 16, [.ref 6, .int v1], []) h = mx_D (1, mm_X7_has, 17, [.ref 6, .int v1], [.int 0]) h := by
  refine Eq.trans (q_iconst (x := 0) dX7_has_16 rfl) ?_
  rfl
theorem e_X7_has_17 (v1 : Int32) (s0 : Int32) (h : mx_H)  : mx_D (1, mm_X7_has, 17, [.ref 6, .int v1], [.int s0]) h = if narrow .boolean (.int s0) = .int s0 then some (some (.int s0), h) else none := by
  exact q_ret dX7_has_17 rfl
theorem e_X7_opOf_0 (v1 : Int32) (h : mx_H)  : mx_D (2, mm_X7_opOf, 0, [.ref 6, .int v1], []) h = (mx_C mm_X7_has [.ref 6, .int v1] h).bind (fun o => mx_D (2, mm_X7_opOf, 5, [.ref 6, .int v1], o.1.toList ++ []) o.2) := by
  refine Eq.trans (q_aload_n dX7_opOf_0 rfl rfl) ?_
  refine Eq.trans (q_iload_n dX7_opOf_1 rfl) ?_
  exact q_call0 (as := [.int v1]) (rest := []) dX7_opOf_2 mx_inv_7_31 rfl rfl rfl ⟨Nat.le_of_ble_eq_true rfl, Nat.le_of_ble_eq_true rfl, (Nat.le_of_ble_eq_true rfl)⟩
theorem c_X7_opOf (v1 : Int32) (h : mx_H) : mx_C mm_X7_opOf [.ref 6, .int v1] h = mx_D (2, mm_X7_opOf, 0, [.ref 6, .int v1], []) h := rfl
theorem e_X7_opOf_5 (v1 : Int32) (s0 : Int32) (h : mx_H)  : mx_D (2, mm_X7_opOf, 5, [.ref 6, .int v1], [.int s0]) h = if s0 = 0 then mx_D (2, mm_X7_opOf, 18, [.ref 6, .int v1], [.null]) h else (if mx_in v1 180 = true then mx_D (2, mm_X7_opOf, 18, [.ref 6, .int v1], [mx_rf (h.2.2 7 v1.toNatClampNeg)]) h else none) := by
  refine Eq.trans (q_if_eq 17 dX7_opOf_5 rfl) (q_ite2 ?_ ?_)
  · refine Eq.trans (q_null dX7_opOf_17) ?_
    rfl
  · refine Eq.trans (q_aload_n dX7_opOf_8 rfl rfl) ?_
    refine Eq.trans (q_getf dX7_opOf_9 mx_fld_7_13 (gf_6_0 _)) ?_
    refine Eq.trans (q_iload_n dX7_opOf_12 rfl) ?_
    refine Eq.trans (q_ld (w := 4) (by decide) dX7_opOf_13 (al_7 _ _)) (q_ite ?_)
    refine Eq.trans (q_goto 18 dX7_opOf_14 rfl) ?_
    rfl
theorem e_X7_opOf_18 (v1 : Int32) (s0 : Option Nat) (h : mx_H)  : mx_D (2, mm_X7_opOf, 18, [.ref 6, .int v1], [mx_rf s0]) h = some (some (mx_rf s0), h) := by
  exact q_retA dX7_opOf_18 rfl (mx_ar_rf _)
theorem e_X7_partOf_0 (v1 : Int32) (v2 : Int32) (h : mx_H)  : mx_D (2, mm_X7_partOf, 0, [.ref 6, .int v1, .int v2], []) h = (mx_C mm_X7_has [.ref 6, .int v1] h).bind (fun o => mx_D (2, mm_X7_partOf, 5, [.ref 6, .int v1, .int v2], o.1.toList ++ []) o.2) := by
  refine Eq.trans (q_aload_n dX7_partOf_0 rfl rfl) ?_
  refine Eq.trans (q_iload_n dX7_partOf_1 rfl) ?_
  exact q_call0 (as := [.int v1]) (rest := []) dX7_partOf_2 mx_inv_7_31 rfl rfl rfl ⟨Nat.le_of_ble_eq_true rfl, Nat.le_of_ble_eq_true rfl, (Nat.le_of_ble_eq_true rfl)⟩
theorem c_X7_partOf (v1 : Int32) (v2 : Int32) (h : mx_H) : mx_C mm_X7_partOf [.ref 6, .int v1, .int v2] h = mx_D (2, mm_X7_partOf, 0, [.ref 6, .int v1, .int v2], []) h := rfl
theorem e_X7_partOf_5 (v1 : Int32) (v2 : Int32) (s0 : Int32) (h : mx_H)  : mx_D (2, mm_X7_partOf, 5, [.ref 6, .int v1, .int v2], [.int s0]) h = if s0 = 0 then mx_D (2, mm_X7_partOf, 30, [.ref 6, .int v1, .int v2], []) h else (if v2 < 0 then mx_D (2, mm_X7_partOf, 30, [.ref 6, .int v1, .int v2], []) h else (if 3 ≤ v2 then mx_D (2, mm_X7_partOf, 30, [.ref 6, .int v1, .int v2], []) h else (if mx_in ((3 * v1) + v2) 540 = true then mx_D (2, mm_X7_partOf, 31, [.ref 6, .int v1, .int v2], [.int (h.1 8 (((3 * v1) + v2).toNatClampNeg))]) h else none))) := by
  refine Eq.trans (q_if_eq 30 dX7_partOf_5 rfl) (q_ite2 ?_ ?_)
  · rfl
  · refine Eq.trans (q_iload_n dX7_partOf_8 rfl) ?_
    refine Eq.trans (q_if_lt 30 dX7_partOf_9 rfl) (q_ite2 ?_ ?_)
    · rfl
    · refine Eq.trans (q_iload_n dX7_partOf_12 rfl) ?_
      refine Eq.trans (q_iconst (x := 3) dX7_partOf_13 rfl) ?_
      refine Eq.trans (q_icmp_ge 30 dX7_partOf_14 rfl) (q_ite2 ?_ ?_)
      · rfl
      · refine Eq.trans (q_aload_n dX7_partOf_17 rfl rfl) ?_
        refine Eq.trans (q_getf dX7_partOf_18 mx_fld_7_17 (gf_6_1 _)) ?_
        refine Eq.trans (q_iconst (x := 3) dX7_partOf_21 rfl) ?_
        refine Eq.trans (q_iload_n dX7_partOf_22 rfl) ?_
        refine Eq.trans (q_imul dX7_partOf_23) ?_
        refine Eq.trans (q_iload_n dX7_partOf_24 rfl) ?_
        refine Eq.trans (q_iadd dX7_partOf_25) ?_
        refine Eq.trans (q_ld (w := 0) (by decide) dX7_partOf_26 (al_8 _ _)) (q_ite ?_)
        refine Eq.trans (q_goto 31 dX7_partOf_27 rfl) ?_
        rfl
theorem e_X7_partOf_30 (v1 : Int32) (v2 : Int32) (h : mx_H)  : mx_D (2, mm_X7_partOf, 30, [.ref 6, .int v1, .int v2], []) h = mx_D (2, mm_X7_partOf, 31, [.ref 6, .int v1, .int v2], [.int ((-1))]) h := by
  refine Eq.trans (q_iconst (x := (-1)) dX7_partOf_30 rfl) ?_
  rfl
theorem e_X7_partOf_31 (v1 : Int32) (v2 : Int32) (s0 : Int32) (h : mx_H)  : mx_D (2, mm_X7_partOf, 31, [.ref 6, .int v1, .int v2], [.int s0]) h = some (some (.int s0), h) := by
  exact q_retI dX7_partOf_31 rfl
theorem e_X7_numberOf_0 (v1 : Int32) (v2 : Int32) (h : mx_H)  : mx_D (2, mm_X7_numberOf, 0, [.ref 6, .int v1, .int v2], []) h = (mx_C mm_X7_has [.ref 6, .int v1] h).bind (fun o => mx_D (2, mm_X7_numberOf, 5, [.ref 6, .int v1, .int v2], o.1.toList ++ []) o.2) := by
  refine Eq.trans (q_aload_n dX7_numberOf_0 rfl rfl) ?_
  refine Eq.trans (q_iload_n dX7_numberOf_1 rfl) ?_
  exact q_call0 (as := [.int v1]) (rest := []) dX7_numberOf_2 mx_inv_7_31 rfl rfl rfl ⟨Nat.le_of_ble_eq_true rfl, Nat.le_of_ble_eq_true rfl, (Nat.le_of_ble_eq_true rfl)⟩
theorem c_X7_numberOf (v1 : Int32) (v2 : Int32) (h : mx_H) : mx_C mm_X7_numberOf [.ref 6, .int v1, .int v2] h = mx_D (2, mm_X7_numberOf, 0, [.ref 6, .int v1, .int v2], []) h := rfl
theorem e_X7_numberOf_5 (v1 : Int32) (v2 : Int32) (s0 : Int32) (h : mx_H)  : mx_D (2, mm_X7_numberOf, 5, [.ref 6, .int v1, .int v2], [.int s0]) h = if s0 = 0 then mx_D (2, mm_X7_numberOf, 30, [.ref 6, .int v1, .int v2], []) h else (if v2 < 0 then mx_D (2, mm_X7_numberOf, 30, [.ref 6, .int v1, .int v2], []) h else (if 2 ≤ v2 then mx_D (2, mm_X7_numberOf, 30, [.ref 6, .int v1, .int v2], []) h else (if mx_in ((2 * v1) + v2) 360 = true then mx_D (2, mm_X7_numberOf, 31, [.ref 6, .int v1, .int v2], [.int (h.1 9 (((2 * v1) + v2).toNatClampNeg))]) h else none))) := by
  refine Eq.trans (q_if_eq 30 dX7_numberOf_5 rfl) (q_ite2 ?_ ?_)
  · rfl
  · refine Eq.trans (q_iload_n dX7_numberOf_8 rfl) ?_
    refine Eq.trans (q_if_lt 30 dX7_numberOf_9 rfl) (q_ite2 ?_ ?_)
    · rfl
    · refine Eq.trans (q_iload_n dX7_numberOf_12 rfl) ?_
      refine Eq.trans (q_iconst (x := 2) dX7_numberOf_13 rfl) ?_
      refine Eq.trans (q_icmp_ge 30 dX7_numberOf_14 rfl) (q_ite2 ?_ ?_)
      · rfl
      · refine Eq.trans (q_aload_n dX7_numberOf_17 rfl rfl) ?_
        refine Eq.trans (q_getf dX7_numberOf_18 mx_fld_7_21 (gf_6_2 _)) ?_
        refine Eq.trans (q_iconst (x := 2) dX7_numberOf_21 rfl) ?_
        refine Eq.trans (q_iload_n dX7_numberOf_22 rfl) ?_
        refine Eq.trans (q_imul dX7_numberOf_23) ?_
        refine Eq.trans (q_iload_n dX7_numberOf_24 rfl) ?_
        refine Eq.trans (q_iadd dX7_numberOf_25) ?_
        refine Eq.trans (q_ld (w := 0) (by decide) dX7_numberOf_26 (al_9 _ _)) (q_ite ?_)
        refine Eq.trans (q_goto 31 dX7_numberOf_27 rfl) ?_
        rfl
theorem e_X7_numberOf_30 (v1 : Int32) (v2 : Int32) (h : mx_H)  : mx_D (2, mm_X7_numberOf, 30, [.ref 6, .int v1, .int v2], []) h = mx_D (2, mm_X7_numberOf, 31, [.ref 6, .int v1, .int v2], [.int 0]) h := by
  refine Eq.trans (q_iconst (x := 0) dX7_numberOf_30 rfl) ?_
  rfl
theorem e_X7_numberOf_31 (v1 : Int32) (v2 : Int32) (s0 : Int32) (h : mx_H)  : mx_D (2, mm_X7_numberOf, 31, [.ref 6, .int v1, .int v2], [.int s0]) h = some (some (.int s0), h) := by
  exact q_retI dX7_numberOf_31 rfl
theorem e_X7_sortOf_0 (v1 : Int32) (h : mx_H)  : mx_D (1, mm_X7_sortOf, 0, [.ref 6, .int v1], []) h = if v1 < 0 then mx_D (1, mm_X7_sortOf, 21, [.ref 6, .int v1], []) h else (if (h.1 6 4) ≤ v1 then mx_D (1, mm_X7_sortOf, 21, [.ref 6, .int v1], []) h else (if mx_in v1 180 = true then mx_D (1, mm_X7_sortOf, 22, [.ref 6, .int v1], [.int (h.1 10 v1.toNatClampNeg)]) h else none)) := by
  refine Eq.trans (q_iload_n dX7_sortOf_0 rfl) ?_
  refine Eq.trans (q_if_lt 21 dX7_sortOf_1 rfl) (q_ite2 ?_ ?_)
  · rfl
  · refine Eq.trans (q_iload_n dX7_sortOf_4 rfl) ?_
    refine Eq.trans (q_aload_n dX7_sortOf_5 rfl rfl) ?_
    refine Eq.trans (q_getf dX7_sortOf_6 mx_fld_7_27 (gf_6_4 _)) ?_
    refine Eq.trans (q_icmp_ge 21 dX7_sortOf_9 rfl) (q_ite2 ?_ ?_)
    · rfl
    · refine Eq.trans (q_aload_n dX7_sortOf_12 rfl rfl) ?_
      refine Eq.trans (q_getf dX7_sortOf_13 mx_fld_7_24 (gf_6_3 _)) ?_
      refine Eq.trans (q_iload_n dX7_sortOf_16 rfl) ?_
      refine Eq.trans (q_ld (w := 0) (by decide) dX7_sortOf_17 (al_10 _ _)) (q_ite ?_)
      refine Eq.trans (q_goto 22 dX7_sortOf_18 rfl) ?_
      rfl
theorem c_X7_sortOf (v1 : Int32) (h : mx_H) : mx_C mm_X7_sortOf [.ref 6, .int v1] h = mx_D (1, mm_X7_sortOf, 0, [.ref 6, .int v1], []) h := rfl
theorem e_X7_sortOf_21 (v1 : Int32) (h : mx_H)  : mx_D (1, mm_X7_sortOf, 21, [.ref 6, .int v1], []) h = mx_D (1, mm_X7_sortOf, 22, [.ref 6, .int v1], [.int 0]) h := by
  refine Eq.trans (q_iconst (x := 0) dX7_sortOf_21 rfl) ?_
  rfl
theorem e_X7_sortOf_22 (v1 : Int32) (s0 : Int32) (h : mx_H)  : mx_D (1, mm_X7_sortOf, 22, [.ref 6, .int v1], [.int s0]) h = some (some (.int s0), h) := by
  exact q_retI dX7_sortOf_22 rfl
theorem e_X7_addConstant_0 (v1 : Int32) (v2 : Int32) (h : mx_H)  : mx_D (2, mm_X7_addConstant, 0, [.ref 6, .int v1, .int v2], []) h = (mx_C mm_X7_prepare [.ref 6, .ref 1004, .int v1, .int 0, .int v2] h).bind (fun o => mx_D (2, mm_X7_addConstant, 10, [.ref 6, .int v1, .int v2], o.1.toList ++ []) o.2) := by
  refine Eq.trans (q_aload_n dX7_addConstant_0 rfl rfl) ?_
  refine Eq.trans (q_gets dX7_addConstant_1 mx_sta_7_35) ?_
  refine Eq.trans (q_iload_n dX7_addConstant_4 rfl) ?_
  refine Eq.trans (q_iconst (x := 0) dX7_addConstant_5 rfl) ?_
  refine Eq.trans (q_iload_n dX7_addConstant_6 rfl) ?_
  exact q_call0 (as := [.ref 1004, .int v1, .int 0, .int v2]) (rest := []) dX7_addConstant_7 mx_inv_7_39 rfl rfl rfl ⟨Nat.le_of_ble_eq_true rfl, Nat.le_of_ble_eq_true rfl, (Nat.le_of_ble_eq_true rfl)⟩
theorem c_X7_addConstant (v1 : Int32) (v2 : Int32) (h : mx_H) : mx_C mm_X7_addConstant [.ref 6, .int v1, .int v2] h = mx_D (2, mm_X7_addConstant, 0, [.ref 6, .int v1, .int v2], []) h := rfl
theorem e_X7_addConstant_10 (v1 : Int32) (v2 : Int32) (h : mx_H)  : mx_D (2, mm_X7_addConstant, 10, [.ref 6, .int v1, .int v2], []) h = (mx_C mm_X7_add [.ref 6] h).bind (fun o => mx_D (2, mm_X7_addConstant, 14, [.ref 6, .int v1, .int v2], o.1.toList ++ []) o.2) := by
  refine Eq.trans (q_aload_n dX7_addConstant_10 rfl rfl) ?_
  exact q_call0 (as := []) (rest := []) dX7_addConstant_11 mx_inv_7_43 rfl rfl rfl ⟨Nat.le_of_ble_eq_true rfl, Nat.le_of_ble_eq_true rfl, (Nat.le_of_ble_eq_true rfl)⟩
theorem e_X7_addConstant_14 (v1 : Int32) (v2 : Int32) (s0 : Int32) (h : mx_H)  : mx_D (2, mm_X7_addConstant, 14, [.ref 6, .int v1, .int v2], [.int s0]) h = some (some (.int s0), h) := by
  exact q_retI dX7_addConstant_14 rfl
theorem e_X7_prepare_0 (v1 : Option Nat) (v2 : Int32) (v3 : Int32) (v4 : Int32) (h : mx_H) (hq0 : mx_wr (mx_rf v1) = true) : mx_D (1, mm_X7_prepare, 0, [.ref 6, mx_rf v1, .int v2, .int v3, .int v4, mx_junk], []) h = if 180 ≤ (h.1 6 4) then mx_D (1, mm_X7_prepare, 87, [.ref 6, mx_rf v1, .int v2, .int v3, .int v4, mx_junk], []) h else (if mx_in (h.1 6 4) 180 = true then if mx_in (2 * (h.1 6 4)) 360 = true then if mx_in ((2 * ((mx_u h.1 9 ((2 * (h.1 6 4)).toNatClampNeg) v2) 6 4)) + 1) 360 = true then if mx_in ((mx_u (mx_u h.1 9 ((2 * (h.1 6 4)).toNatClampNeg) v2) 9 (((2 * ((mx_u h.1 9 ((2 * (h.1 6 4)).toNatClampNeg) v2) 6 4)) + 1).toNatClampNeg) v3) 6 4) 180 = true then mx_D (1, mm_X7_prepare, 60, [.ref 6, mx_rf v1, .int v2, .int v3, .int v4, .int 0], []) ((mx_u (mx_u (mx_u h.1 9 ((2 * (h.1 6 4)).toNatClampNeg) v2) 9 (((2 * ((mx_u h.1 9 ((2 * (h.1 6 4)).toNatClampNeg) v2) 6 4)) + 1).toNatClampNeg) v3) 10 (((mx_u (mx_u h.1 9 ((2 * (h.1 6 4)).toNatClampNeg) v2) 9 (((2 * ((mx_u h.1 9 ((2 * (h.1 6 4)).toNatClampNeg) v2) 6 4)) + 1).toNatClampNeg) v3) 6 4).toNatClampNeg) v4), h.2.1, (mx_u h.2.2 7 ((h.1 6 4).toNatClampNeg) v1)) else none else none else none else none) := by
  refine Eq.trans (q_aload_n dX7_prepare_0 rfl rfl) ?_
  refine Eq.trans (q_getf dX7_prepare_1 mx_fld_7_27 (gf_6_4 _)) ?_
  refine Eq.trans (q_sipush (x := 180) dX7_prepare_4 rfl) ?_
  refine Eq.trans (q_icmp_ge 87 dX7_prepare_7 rfl) (q_ite2 ?_ ?_)
  · rfl
  · refine Eq.trans (q_aload_n dX7_prepare_10 rfl rfl) ?_
    refine Eq.trans (q_getf dX7_prepare_11 mx_fld_7_13 (gf_6_0 _)) ?_
    refine Eq.trans (q_aload_n dX7_prepare_14 rfl rfl) ?_
    refine Eq.trans (q_getf dX7_prepare_15 mx_fld_7_27 (gf_6_4 _)) ?_
    refine Eq.trans (q_aload_n dX7_prepare_18 rfl (mx_ar_rf _)) ?_
    refine Eq.trans (q_st (w := 4) (by decide) dX7_prepare_19 (as_7 _ _ (q := v1) hq0)) (q_ite ?_)
    refine Eq.trans (q_aload_n dX7_prepare_20 rfl rfl) ?_
    refine Eq.trans (q_getf dX7_prepare_21 mx_fld_7_21 (gf_6_2 _)) ?_
    refine Eq.trans (q_iconst (x := 2) dX7_prepare_24 rfl) ?_
    refine Eq.trans (q_aload_n dX7_prepare_25 rfl rfl) ?_
    refine Eq.trans (q_getf dX7_prepare_26 mx_fld_7_27 (gf_6_4 _)) ?_
    refine Eq.trans (q_imul dX7_prepare_29) ?_
    refine Eq.trans (q_iload_n dX7_prepare_30 rfl) ?_
    refine Eq.trans (q_st (w := 0) (by decide) dX7_prepare_31 (as_9 _ _ _)) (q_ite ?_)
    refine Eq.trans (q_aload_n dX7_prepare_32 rfl rfl) ?_
    refine Eq.trans (q_getf dX7_prepare_33 mx_fld_7_21 (gf_6_2 _)) ?_
    refine Eq.trans (q_iconst (x := 2) dX7_prepare_36 rfl) ?_
    refine Eq.trans (q_aload_n dX7_prepare_37 rfl rfl) ?_
    refine Eq.trans (q_getf dX7_prepare_38 mx_fld_7_27 (gf_6_4 _)) ?_
    refine Eq.trans (q_imul dX7_prepare_41) ?_
    refine Eq.trans (q_iconst (x := 1) dX7_prepare_42 rfl) ?_
    refine Eq.trans (q_iadd dX7_prepare_43) ?_
    refine Eq.trans (q_iload_n dX7_prepare_44 rfl) ?_
    refine Eq.trans (q_st (w := 0) (by decide) dX7_prepare_45 (as_9 _ _ _)) (q_ite ?_)
    refine Eq.trans (q_aload_n dX7_prepare_46 rfl rfl) ?_
    refine Eq.trans (q_getf dX7_prepare_47 mx_fld_7_24 (gf_6_3 _)) ?_
    refine Eq.trans (q_aload_n dX7_prepare_50 rfl rfl) ?_
    refine Eq.trans (q_getf dX7_prepare_51 mx_fld_7_27 (gf_6_4 _)) ?_
    refine Eq.trans (q_iload dX7_prepare_54 rfl) ?_
    refine Eq.trans (q_st (w := 0) (by decide) dX7_prepare_56 (as_10 _ _ _)) (q_ite ?_)
    refine Eq.trans (q_iconst (x := 0) dX7_prepare_57 rfl) ?_
    refine Eq.trans (q_istore (L' := [.ref 6, mx_rf v1, .int v2, .int v3, .int v4, .int 0]) dX7_prepare_58 (Nat.le_of_ble_eq_true rfl) rfl) ?_
    rfl
theorem c_X7_prepare (v1 : Option Nat) (v2 : Int32) (v3 : Int32) (v4 : Int32) (h : mx_H) : mx_C mm_X7_prepare [.ref 6, mx_rf v1, .int v2, .int v3, .int v4] h = mx_D (1, mm_X7_prepare, 0, [.ref 6, mx_rf v1, .int v2, .int v3, .int v4, mx_junk], []) h := (by cases v1 <;> exact rfl)
theorem e_X7_prepare_60 (v1 : Option Nat) (v2 : Int32) (v3 : Int32) (v4 : Int32) (v5 : Int32) (h : mx_H)  : mx_D (1, mm_X7_prepare, 60, [.ref 6, mx_rf v1, .int v2, .int v3, .int v4, .int v5], []) h = if 3 ≤ v5 then mx_D (1, mm_X7_prepare, 87, [.ref 6, mx_rf v1, .int v2, .int v3, .int v4, .int v5], []) h else (if mx_in ((3 * (h.1 6 4)) + v5) 540 = true then mx_D (1, mm_X7_prepare, 60, [.ref 6, mx_rf v1, .int v2, .int v3, .int v4, .int (v5 + 1)], []) ((mx_u h.1 8 (((3 * (h.1 6 4)) + v5).toNatClampNeg) 0), h.2.1, h.2.2) else none) := by
  refine Eq.trans (q_iload dX7_prepare_60 rfl) ?_
  refine Eq.trans (q_iconst (x := 3) dX7_prepare_62 rfl) ?_
  refine Eq.trans (q_icmp_ge 87 dX7_prepare_63 rfl) (q_ite2 ?_ ?_)
  · rfl
  · refine Eq.trans (q_aload_n dX7_prepare_66 rfl rfl) ?_
    refine Eq.trans (q_getf dX7_prepare_67 mx_fld_7_17 (gf_6_1 _)) ?_
    refine Eq.trans (q_iconst (x := 3) dX7_prepare_70 rfl) ?_
    refine Eq.trans (q_aload_n dX7_prepare_71 rfl rfl) ?_
    refine Eq.trans (q_getf dX7_prepare_72 mx_fld_7_27 (gf_6_4 _)) ?_
    refine Eq.trans (q_imul dX7_prepare_75) ?_
    refine Eq.trans (q_iload dX7_prepare_76 rfl) ?_
    refine Eq.trans (q_iadd dX7_prepare_78) ?_
    refine Eq.trans (q_iconst (x := 0) dX7_prepare_79 rfl) ?_
    refine Eq.trans (q_st (w := 0) (by decide) dX7_prepare_80 (as_8 _ _ _)) (q_ite ?_)
    refine Eq.trans (q_iinc (x' := 1) (L' := [.ref 6, mx_rf v1, .int v2, .int v3, .int v4, .int (v5 + 1)]) dX7_prepare_81 rfl rfl rfl) ?_
    refine Eq.trans (q_goto 60 dX7_prepare_84 rfl) ?_
    rfl
theorem e_X7_prepare_87 (v1 : Option Nat) (v2 : Int32) (v3 : Int32) (v4 : Int32) (v5 : Value) (h : mx_H)  : mx_D (1, mm_X7_prepare, 87, [.ref 6, mx_rf v1, .int v2, .int v3, .int v4, v5], []) h = some (none, h) := by
  exact q_retV dX7_prepare_87 rfl
theorem e_X7_preparePart_0 (v1 : Int32) (v2 : Int32) (h : mx_H)  : mx_D (1, mm_X7_preparePart, 0, [.ref 6, .int v1, .int v2], []) h = if 180 ≤ (h.1 6 4) then mx_D (1, mm_X7_preparePart, 33, [.ref 6, .int v1, .int v2], []) h else (if v1 < 0 then mx_D (1, mm_X7_preparePart, 33, [.ref 6, .int v1, .int v2], []) h else (if 3 ≤ v1 then mx_D (1, mm_X7_preparePart, 33, [.ref 6, .int v1, .int v2], []) h else (if mx_in ((3 * (h.1 6 4)) + v1) 540 = true then mx_D (1, mm_X7_preparePart, 33, [.ref 6, .int v1, .int v2], []) ((mx_u h.1 8 (((3 * (h.1 6 4)) + v1).toNatClampNeg) v2), h.2.1, h.2.2) else none))) := by
  refine Eq.trans (q_aload_n dX7_preparePart_0 rfl rfl) ?_
  refine Eq.trans (q_getf dX7_preparePart_1 mx_fld_7_27 (gf_6_4 _)) ?_
  refine Eq.trans (q_sipush (x := 180) dX7_preparePart_4 rfl) ?_
  refine Eq.trans (q_icmp_ge 33 dX7_preparePart_7 rfl) (q_ite2 ?_ ?_)
  · rfl
  · refine Eq.trans (q_iload_n dX7_preparePart_10 rfl) ?_
    refine Eq.trans (q_if_lt 33 dX7_preparePart_11 rfl) (q_ite2 ?_ ?_)
    · rfl
    · refine Eq.trans (q_iload_n dX7_preparePart_14 rfl) ?_
      refine Eq.trans (q_iconst (x := 3) dX7_preparePart_15 rfl) ?_
      refine Eq.trans (q_icmp_ge 33 dX7_preparePart_16 rfl) (q_ite2 ?_ ?_)
      · rfl
      · refine Eq.trans (q_aload_n dX7_preparePart_19 rfl rfl) ?_
        refine Eq.trans (q_getf dX7_preparePart_20 mx_fld_7_17 (gf_6_1 _)) ?_
        refine Eq.trans (q_iconst (x := 3) dX7_preparePart_23 rfl) ?_
        refine Eq.trans (q_aload_n dX7_preparePart_24 rfl rfl) ?_
        refine Eq.trans (q_getf dX7_preparePart_25 mx_fld_7_27 (gf_6_4 _)) ?_
        refine Eq.trans (q_imul dX7_preparePart_28) ?_
        refine Eq.trans (q_iload_n dX7_preparePart_29 rfl) ?_
        refine Eq.trans (q_iadd dX7_preparePart_30) ?_
        refine Eq.trans (q_iload_n dX7_preparePart_31 rfl) ?_
        refine Eq.trans (q_st (w := 0) (by decide) dX7_preparePart_32 (as_8 _ _ _)) (q_ite ?_)
        rfl
theorem c_X7_preparePart (v1 : Int32) (v2 : Int32) (h : mx_H) : mx_C mm_X7_preparePart [.ref 6, .int v1, .int v2] h = mx_D (1, mm_X7_preparePart, 0, [.ref 6, .int v1, .int v2], []) h := rfl
theorem e_X7_preparePart_33 (v1 : Int32) (v2 : Int32) (h : mx_H)  : mx_D (1, mm_X7_preparePart, 33, [.ref 6, .int v1, .int v2], []) h = some (none, h) := by
  exact q_retV dX7_preparePart_33 rfl
theorem e_X7_make_0  (h : mx_H)  : mx_D (2, mm_X7_make, 0, [.ref 6, mx_junk], []) h = mx_D (2, mm_X7_make, 2, [.ref 6, .int 0], []) h := by
  refine Eq.trans (q_iconst (x := 0) dX7_make_0 rfl) ?_
  refine Eq.trans (q_istore_n (L' := [.ref 6, .int 0]) dX7_make_1 (Nat.le_of_ble_eq_true rfl) rfl) ?_
  rfl
theorem c_X7_make  (h : mx_H) : mx_C mm_X7_make [.ref 6] h = mx_D (2, mm_X7_make, 0, [.ref 6, mx_junk], []) h := rfl
theorem e_X7_make_2 (v1 : Int32) (h : mx_H)  : mx_D (2, mm_X7_make, 2, [.ref 6, .int v1], []) h = if (h.1 6 4) ≤ v1 then (mx_C mm_X7_add [.ref 6] h).bind (fun o => mx_D (2, mm_X7_make, 30, [.ref 6, .int v1], o.1.toList ++ []) o.2) else ((mx_C mm_X7_isPrepared [.ref 6, .int v1] h).bind (fun o => mx_D (2, mm_X7_make, 15, [.ref 6, .int v1], o.1.toList ++ []) o.2)) := by
  refine Eq.trans (q_iload_n dX7_make_2 rfl) ?_
  refine Eq.trans (q_aload_n dX7_make_3 rfl rfl) ?_
  refine Eq.trans (q_getf dX7_make_4 mx_fld_7_27 (gf_6_4 _)) ?_
  refine Eq.trans (q_icmp_ge 26 dX7_make_7 rfl) (q_ite2 ?_ ?_)
  · refine Eq.trans (q_aload_n dX7_make_26 rfl rfl) ?_
    exact q_call0 (as := []) (rest := []) dX7_make_27 mx_inv_7_43 rfl rfl rfl ⟨Nat.le_of_ble_eq_true rfl, Nat.le_of_ble_eq_true rfl, (Nat.le_of_ble_eq_true rfl)⟩
  · refine Eq.trans (q_aload_n dX7_make_10 rfl rfl) ?_
    refine Eq.trans (q_iload_n dX7_make_11 rfl) ?_
    exact q_call0 (as := [.int v1]) (rest := []) dX7_make_12 mx_inv_7_47 rfl rfl rfl ⟨Nat.le_of_ble_eq_true rfl, Nat.le_of_ble_eq_true rfl, (Nat.le_of_ble_eq_true rfl)⟩
theorem e_X7_make_15 (v1 : Int32) (s0 : Int32) (h : mx_H)  : mx_D (2, mm_X7_make, 15, [.ref 6, .int v1], [.int s0]) h = if s0 = 0 then mx_D (2, mm_X7_make, 2, [.ref 6, .int (v1 + 1)], []) h else (some (some (.int v1), h)) := by
  refine Eq.trans (q_if_eq 20 dX7_make_15 rfl) (q_ite2 ?_ ?_)
  · refine Eq.trans (q_iinc (x' := 1) (L' := [.ref 6, .int (v1 + 1)]) dX7_make_20 rfl rfl rfl) ?_
    refine Eq.trans (q_goto 2 dX7_make_23 rfl) ?_
    rfl
  · refine Eq.trans (q_iload_n dX7_make_18 rfl) ?_
    exact q_retI dX7_make_19 rfl
theorem e_X7_make_30 (v1 : Int32) (s0 : Int32) (h : mx_H)  : mx_D (2, mm_X7_make, 30, [.ref 6, .int v1], [.int s0]) h = some (some (.int s0), h) := by
  exact q_retI dX7_make_30 rfl
theorem e_X7_isPrepared_0 (v1 : Int32) (h : mx_H) (hq0 : mx_wr (mx_rf (h.2.2 7 v1.toNatClampNeg)) = true) (hq1 : mx_wr (mx_rf (h.2.2 7 ((h.1 6 4).toNatClampNeg))) = true) : mx_D (1, mm_X7_isPrepared, 0, [.ref 6, .int v1, mx_junk], []) h = if 180 ≤ (h.1 6 4) then mx_D (1, mm_X7_isPrepared, 46, [.ref 6, .int v1, mx_junk], []) h else (if mx_in v1 180 = true then if mx_in (h.1 6 4) 180 = true then if (mx_rf (h.2.2 7 v1.toNatClampNeg) : Value) = mx_rf (h.2.2 7 ((h.1 6 4).toNatClampNeg)) then if mx_in v1 180 = true then if mx_in (h.1 6 4) 180 = true then if (h.1 10 v1.toNatClampNeg) = (h.1 10 ((h.1 6 4).toNatClampNeg)) then mx_D (1, mm_X7_isPrepared, 50, [.ref 6, .int v1, .int 0], []) h else (mx_D (1, mm_X7_isPrepared, 46, [.ref 6, .int v1, mx_junk], []) h) else none else none else (mx_D (1, mm_X7_isPrepared, 46, [.ref 6, .int v1, mx_junk], []) h) else none else none) := by
  refine Eq.trans (q_aload_n dX7_isPrepared_0 rfl rfl) ?_
  refine Eq.trans (q_getf dX7_isPrepared_1 mx_fld_7_27 (gf_6_4 _)) ?_
  refine Eq.trans (q_sipush (x := 180) dX7_isPrepared_4 rfl) ?_
  refine Eq.trans (q_icmp_ge 46 dX7_isPrepared_7 rfl) (q_ite2 ?_ ?_)
  · rfl
  · refine Eq.trans (q_aload_n dX7_isPrepared_10 rfl rfl) ?_
    refine Eq.trans (q_getf dX7_isPrepared_11 mx_fld_7_13 (gf_6_0 _)) ?_
    refine Eq.trans (q_iload_n dX7_isPrepared_14 rfl) ?_
    refine Eq.trans (q_ld (w := 4) (by decide) dX7_isPrepared_15 (al_7 _ _)) (q_ite ?_)
    refine Eq.trans (q_aload_n dX7_isPrepared_16 rfl rfl) ?_
    refine Eq.trans (q_getf dX7_isPrepared_17 mx_fld_7_13 (gf_6_0 _)) ?_
    refine Eq.trans (q_aload_n dX7_isPrepared_20 rfl rfl) ?_
    refine Eq.trans (q_getf dX7_isPrepared_21 mx_fld_7_27 (gf_6_4 _)) ?_
    refine Eq.trans (q_ld (w := 4) (by decide) dX7_isPrepared_24 (al_7 _ _)) (q_ite ?_)
    refine Eq.trans (q_acmp_ne 46 dX7_isPrepared_25 hq0 hq1 rfl) (q_ite2 ?_ ?_)
    · refine Eq.trans (q_aload_n dX7_isPrepared_28 rfl rfl) ?_
      refine Eq.trans (q_getf dX7_isPrepared_29 mx_fld_7_24 (gf_6_3 _)) ?_
      refine Eq.trans (q_iload_n dX7_isPrepared_32 rfl) ?_
      refine Eq.trans (q_ld (w := 0) (by decide) dX7_isPrepared_33 (al_10 _ _)) (q_ite ?_)
      refine Eq.trans (q_aload_n dX7_isPrepared_34 rfl rfl) ?_
      refine Eq.trans (q_getf dX7_isPrepared_35 mx_fld_7_24 (gf_6_3 _)) ?_
      refine Eq.trans (q_aload_n dX7_isPrepared_38 rfl rfl) ?_
      refine Eq.trans (q_getf dX7_isPrepared_39 mx_fld_7_27 (gf_6_4 _)) ?_
      refine Eq.trans (q_ld (w := 0) (by decide) dX7_isPrepared_42 (al_10 _ _)) (q_ite ?_)
      refine Eq.trans (q_icmp_eq 48 dX7_isPrepared_43 rfl) (q_ite2 ?_ ?_)
      · refine Eq.trans (q_iconst (x := 0) dX7_isPrepared_48 rfl) ?_
        refine Eq.trans (q_istore_n (L' := [.ref 6, .int v1, .int 0]) dX7_isPrepared_49 (Nat.le_of_ble_eq_true rfl) rfl) ?_
        rfl
      · rfl
    · rfl
theorem c_X7_isPrepared (v1 : Int32) (h : mx_H) : mx_C mm_X7_isPrepared [.ref 6, .int v1] h = mx_D (1, mm_X7_isPrepared, 0, [.ref 6, .int v1, mx_junk], []) h := rfl
theorem e_X7_isPrepared_46 (v1 : Int32) (h : mx_H)  : mx_D (1, mm_X7_isPrepared, 46, [.ref 6, .int v1, mx_junk], []) h = some (some (.int 0), h) := by
  refine Eq.trans (q_iconst (x := 0) dX7_isPrepared_46 rfl) ?_
  exact Eq.trans (q_ret dX7_isPrepared_47 rfl) (if_pos rfl)
theorem e_X7_isPrepared_50 (v1 : Int32) (v2 : Int32) (h : mx_H)  : mx_D (1, mm_X7_isPrepared, 50, [.ref 6, .int v1, .int v2], []) h = if 3 ≤ v2 then if mx_in (2 * v1) 360 = true then if mx_in (2 * (h.1 6 4)) 360 = true then if (h.1 9 ((2 * v1).toNatClampNeg)) = (h.1 9 ((2 * (h.1 6 4)).toNatClampNeg)) then if mx_in ((2 * v1) + 1) 360 = true then if mx_in ((2 * (h.1 6 4)) + 1) 360 = true then if (h.1 9 (((2 * v1) + 1).toNatClampNeg)) = (h.1 9 (((2 * (h.1 6 4)) + 1).toNatClampNeg)) then mx_D (1, mm_X7_isPrepared, 142, [.ref 6, .int v1, .int v2], [.int 1]) h else (mx_D (1, mm_X7_isPrepared, 141, [.ref 6, .int v1, .int v2], []) h) else none else none else (mx_D (1, mm_X7_isPrepared, 141, [.ref 6, .int v1, .int v2], []) h) else none else none else (if mx_in ((3 * v1) + v2) 540 = true then if mx_in ((3 * (h.1 6 4)) + v2) 540 = true then if (h.1 8 (((3 * v1) + v2).toNatClampNeg)) = (h.1 8 (((3 * (h.1 6 4)) + v2).toNatClampNeg)) then mx_D (1, mm_X7_isPrepared, 50, [.ref 6, .int v1, .int (v2 + 1)], []) h else (some (some (.int 0), h)) else none else none) := by
  refine Eq.trans (q_iload_n dX7_isPrepared_50 rfl) ?_
  refine Eq.trans (q_iconst (x := 3) dX7_isPrepared_51 rfl) ?_
  refine Eq.trans (q_icmp_ge 89 dX7_isPrepared_52 rfl) (q_ite2 ?_ ?_)
  · refine Eq.trans (q_aload_n dX7_isPrepared_89 rfl rfl) ?_
    refine Eq.trans (q_getf dX7_isPrepared_90 mx_fld_7_21 (gf_6_2 _)) ?_
    refine Eq.trans (q_iconst (x := 2) dX7_isPrepared_93 rfl) ?_
    refine Eq.trans (q_iload_n dX7_isPrepared_94 rfl) ?_
    refine Eq.trans (q_imul dX7_isPrepared_95) ?_
    refine Eq.trans (q_ld (w := 0) (by decide) dX7_isPrepared_96 (al_9 _ _)) (q_ite ?_)
    refine Eq.trans (q_aload_n dX7_isPrepared_97 rfl rfl) ?_
    refine Eq.trans (q_getf dX7_isPrepared_98 mx_fld_7_21 (gf_6_2 _)) ?_
    refine Eq.trans (q_iconst (x := 2) dX7_isPrepared_101 rfl) ?_
    refine Eq.trans (q_aload_n dX7_isPrepared_102 rfl rfl) ?_
    refine Eq.trans (q_getf dX7_isPrepared_103 mx_fld_7_27 (gf_6_4 _)) ?_
    refine Eq.trans (q_imul dX7_isPrepared_106) ?_
    refine Eq.trans (q_ld (w := 0) (by decide) dX7_isPrepared_107 (al_9 _ _)) (q_ite ?_)
    refine Eq.trans (q_icmp_ne 141 dX7_isPrepared_108 rfl) (q_ite2 ?_ ?_)
    · refine Eq.trans (q_aload_n dX7_isPrepared_111 rfl rfl) ?_
      refine Eq.trans (q_getf dX7_isPrepared_112 mx_fld_7_21 (gf_6_2 _)) ?_
      refine Eq.trans (q_iconst (x := 2) dX7_isPrepared_115 rfl) ?_
      refine Eq.trans (q_iload_n dX7_isPrepared_116 rfl) ?_
      refine Eq.trans (q_imul dX7_isPrepared_117) ?_
      refine Eq.trans (q_iconst (x := 1) dX7_isPrepared_118 rfl) ?_
      refine Eq.trans (q_iadd dX7_isPrepared_119) ?_
      refine Eq.trans (q_ld (w := 0) (by decide) dX7_isPrepared_120 (al_9 _ _)) (q_ite ?_)
      refine Eq.trans (q_aload_n dX7_isPrepared_121 rfl rfl) ?_
      refine Eq.trans (q_getf dX7_isPrepared_122 mx_fld_7_21 (gf_6_2 _)) ?_
      refine Eq.trans (q_iconst (x := 2) dX7_isPrepared_125 rfl) ?_
      refine Eq.trans (q_aload_n dX7_isPrepared_126 rfl rfl) ?_
      refine Eq.trans (q_getf dX7_isPrepared_127 mx_fld_7_27 (gf_6_4 _)) ?_
      refine Eq.trans (q_imul dX7_isPrepared_130) ?_
      refine Eq.trans (q_iconst (x := 1) dX7_isPrepared_131 rfl) ?_
      refine Eq.trans (q_iadd dX7_isPrepared_132) ?_
      refine Eq.trans (q_ld (w := 0) (by decide) dX7_isPrepared_133 (al_9 _ _)) (q_ite ?_)
      refine Eq.trans (q_icmp_ne 141 dX7_isPrepared_134 rfl) (q_ite2 ?_ ?_)
      · refine Eq.trans (q_iconst (x := 1) dX7_isPrepared_137 rfl) ?_
        refine Eq.trans (q_goto 142 dX7_isPrepared_138 rfl) ?_
        rfl
      · rfl
    · rfl
  · refine Eq.trans (q_aload_n dX7_isPrepared_55 rfl rfl) ?_
    refine Eq.trans (q_getf dX7_isPrepared_56 mx_fld_7_17 (gf_6_1 _)) ?_
    refine Eq.trans (q_iconst (x := 3) dX7_isPrepared_59 rfl) ?_
    refine Eq.trans (q_iload_n dX7_isPrepared_60 rfl) ?_
    refine Eq.trans (q_imul dX7_isPrepared_61) ?_
    refine Eq.trans (q_iload_n dX7_isPrepared_62 rfl) ?_
    refine Eq.trans (q_iadd dX7_isPrepared_63) ?_
    refine Eq.trans (q_ld (w := 0) (by decide) dX7_isPrepared_64 (al_8 _ _)) (q_ite ?_)
    refine Eq.trans (q_aload_n dX7_isPrepared_65 rfl rfl) ?_
    refine Eq.trans (q_getf dX7_isPrepared_66 mx_fld_7_17 (gf_6_1 _)) ?_
    refine Eq.trans (q_iconst (x := 3) dX7_isPrepared_69 rfl) ?_
    refine Eq.trans (q_aload_n dX7_isPrepared_70 rfl rfl) ?_
    refine Eq.trans (q_getf dX7_isPrepared_71 mx_fld_7_27 (gf_6_4 _)) ?_
    refine Eq.trans (q_imul dX7_isPrepared_74) ?_
    refine Eq.trans (q_iload_n dX7_isPrepared_75 rfl) ?_
    refine Eq.trans (q_iadd dX7_isPrepared_76) ?_
    refine Eq.trans (q_ld (w := 0) (by decide) dX7_isPrepared_77 (al_8 _ _)) (q_ite ?_)
    refine Eq.trans (q_icmp_eq 83 dX7_isPrepared_78 rfl) (q_ite2 ?_ ?_)
    · refine Eq.trans (q_iinc (x' := 1) (L' := [.ref 6, .int v1, .int (v2 + 1)]) dX7_isPrepared_83 rfl rfl rfl) ?_
      refine Eq.trans (q_goto 50 dX7_isPrepared_86 rfl) ?_
      rfl
    · refine Eq.trans (q_iconst (x := 0) dX7_isPrepared_81 rfl) ?_
      exact Eq.trans (q_ret dX7_isPrepared_82 rfl) (if_pos rfl)
theorem e_X7_isPrepared_141 (v1 : Int32) (v2 : Int32) (h : mx_H)  : mx_D (1, mm_X7_isPrepared, 141, [.ref 6, .int v1, .int v2], []) h = mx_D (1, mm_X7_isPrepared, 142, [.ref 6, .int v1, .int v2], [.int 0]) h := by
  refine Eq.trans (q_iconst (x := 0) dX7_isPrepared_141 rfl) ?_
  rfl
theorem e_X7_isPrepared_142 (v1 : Int32) (v2 : Int32) (s0 : Int32) (h : mx_H)  : mx_D (1, mm_X7_isPrepared, 142, [.ref 6, .int v1, .int v2], [.int s0]) h = if narrow .boolean (.int s0) = .int s0 then some (some (.int s0), h) else none := by
  exact q_ret dX7_isPrepared_142 rfl
theorem e_X7_add_0  (h : mx_H)  : mx_D (1, mm_X7_add, 0, [.ref 6], []) h = if (h.1 6 4) < 180 then some (some (.int (((mx_u h.1 6 4 ((h.1 6 4) + 1)) 6 4) - 1)), ((mx_u h.1 6 4 ((h.1 6 4) + 1)), h.2.1, h.2.2)) else (some (some (.int ((-1))), h)) := by
  refine Eq.trans (q_aload_n dX7_add_0 rfl rfl) ?_
  refine Eq.trans (q_getf dX7_add_1 mx_fld_7_27 (gf_6_4 _)) ?_
  refine Eq.trans (q_sipush (x := 180) dX7_add_4 rfl) ?_
  refine Eq.trans (q_icmp_lt 12 dX7_add_7 rfl) (q_ite2 ?_ ?_)
  · refine Eq.trans (q_aload_n dX7_add_12 rfl rfl) ?_
    refine Eq.trans (q_dup dX7_add_13 rfl) ?_
    refine Eq.trans (q_getf dX7_add_14 mx_fld_7_27 (gf_6_4 _)) ?_
    refine Eq.trans (q_iconst (x := 1) dX7_add_17 rfl) ?_
    refine Eq.trans (q_iadd dX7_add_18) ?_
    refine Eq.trans (q_putf dX7_add_19 mx_fld_7_27 (pf_6_4 _ _)) ?_
    refine Eq.trans (q_aload_n dX7_add_22 rfl rfl) ?_
    refine Eq.trans (q_getf dX7_add_23 mx_fld_7_27 (gf_6_4 _)) ?_
    refine Eq.trans (q_iconst (x := 1) dX7_add_26 rfl) ?_
    refine Eq.trans (q_isub dX7_add_27) ?_
    exact q_retI dX7_add_28 rfl
  · refine Eq.trans (q_iconst (x := (-1)) dX7_add_10 rfl) ?_
    exact q_retI dX7_add_11 rfl
theorem c_X7_add  (h : mx_H) : mx_C mm_X7_add [.ref 6] h = mx_D (1, mm_X7_add, 0, [.ref 6], []) h := rfl
theorem e_X7_cut_0 (v1 : Int32) (h : mx_H)  : mx_D (1, mm_X7_cut, 0, [.ref 6, .int v1], []) h = if v1 < 0 then mx_D (1, mm_X7_cut, 17, [.ref 6, .int v1], []) h else (if (h.1 6 4) ≤ v1 then mx_D (1, mm_X7_cut, 17, [.ref 6, .int v1], []) h else (mx_D (1, mm_X7_cut, 17, [.ref 6, .int v1], []) ((mx_u h.1 6 4 v1), h.2.1, h.2.2))) := by
  refine Eq.trans (q_iload_n dX7_cut_0 rfl) ?_
  refine Eq.trans (q_if_lt 17 dX7_cut_1 rfl) (q_ite2 ?_ ?_)
  · rfl
  · refine Eq.trans (q_iload_n dX7_cut_4 rfl) ?_
    refine Eq.trans (q_aload_n dX7_cut_5 rfl rfl) ?_
    refine Eq.trans (q_getf dX7_cut_6 mx_fld_7_27 (gf_6_4 _)) ?_
    refine Eq.trans (q_icmp_ge 17 dX7_cut_9 rfl) (q_ite2 ?_ ?_)
    · rfl
    · refine Eq.trans (q_aload_n dX7_cut_12 rfl rfl) ?_
      refine Eq.trans (q_iload_n dX7_cut_13 rfl) ?_
      refine Eq.trans (q_putf dX7_cut_14 mx_fld_7_27 (pf_6_4 _ _)) ?_
      rfl
theorem c_X7_cut (v1 : Int32) (h : mx_H) : mx_C mm_X7_cut [.ref 6, .int v1] h = mx_D (1, mm_X7_cut, 0, [.ref 6, .int v1], []) h := rfl
theorem e_X7_cut_17 (v1 : Int32) (h : mx_H)  : mx_D (1, mm_X7_cut, 17, [.ref 6, .int v1], []) h = some (none, h) := by
  exact q_retV dX7_cut_17 rfl
theorem e_X7_heavyOnes_0  (h : mx_H)  : mx_D (2, mm_X7_heavyOnes, 0, [.ref 6, mx_junk, mx_junk], []) h = mx_D (2, mm_X7_heavyOnes, 4, [.ref 6, .int 0, .int 0], []) h := by
  refine Eq.trans (q_iconst (x := 0) dX7_heavyOnes_0 rfl) ?_
  refine Eq.trans (q_istore_n (L' := [.ref 6, .int 0, mx_junk]) dX7_heavyOnes_1 (Nat.le_of_ble_eq_true rfl) rfl) ?_
  refine Eq.trans (q_iconst (x := 0) dX7_heavyOnes_2 rfl) ?_
  refine Eq.trans (q_istore_n (L' := [.ref 6, .int 0, .int 0]) dX7_heavyOnes_3 (Nat.le_of_ble_eq_true rfl) rfl) ?_
  rfl
theorem c_X7_heavyOnes  (h : mx_H) : mx_C mm_X7_heavyOnes [.ref 6] h = mx_D (2, mm_X7_heavyOnes, 0, [.ref 6, mx_junk, mx_junk], []) h := rfl
theorem e_X7_heavyOnes_4 (v1 : Int32) (v2 : Int32) (h : mx_H) (a0 : Nat) (he_a0 : h.2.2 7 v2.toNatClampNeg = some a0) (hw_a0 : 1000 ≤ a0 ∧ a0 < 1042) : mx_D (2, mm_X7_heavyOnes, 4, [.ref 6, .int v1, .int v2], []) h = if (h.1 6 4) ≤ v2 then some (some (.int v1), h) else (if mx_in v2 180 = true then if (mx_rf (h.2.2 7 v2.toNatClampNeg) : Value) = .null then mx_D (2, mm_X7_heavyOnes, 36, [.ref 6, .int v1, .int v2], []) h else (if mx_in v2 180 = true then (mx_C mm_X9_isHeavy [.ref a0] h).bind (fun o => mx_D (2, mm_X7_heavyOnes, 30, [.ref 6, .int v1, .int v2], o.1.toList ++ []) o.2) else none) else none) := by
  refine Eq.trans (q_iload_n dX7_heavyOnes_4 rfl) ?_
  refine Eq.trans (q_aload_n dX7_heavyOnes_5 rfl rfl) ?_
  refine Eq.trans (q_getf dX7_heavyOnes_6 mx_fld_7_27 (gf_6_4 _)) ?_
  refine Eq.trans (q_icmp_ge 42 dX7_heavyOnes_9 rfl) (q_ite2 ?_ ?_)
  · refine Eq.trans (q_iload_n dX7_heavyOnes_42 rfl) ?_
    exact q_retI dX7_heavyOnes_43 rfl
  · refine Eq.trans (q_aload_n dX7_heavyOnes_12 rfl rfl) ?_
    refine Eq.trans (q_getf dX7_heavyOnes_13 mx_fld_7_13 (gf_6_0 _)) ?_
    refine Eq.trans (q_iload_n dX7_heavyOnes_16 rfl) ?_
    refine Eq.trans (q_ld (w := 4) (by decide) dX7_heavyOnes_17 (al_7 _ _)) (q_ite ?_)
    refine Eq.trans (q_ifnull 36 dX7_heavyOnes_18 (mx_ar_rf _) rfl) (q_ite2 ?_ ?_)
    · rfl
    · refine Eq.trans (q_aload_n dX7_heavyOnes_21 rfl rfl) ?_
      refine Eq.trans (q_getf dX7_heavyOnes_22 mx_fld_7_13 (gf_6_0 _)) ?_
      refine Eq.trans (q_iload_n dX7_heavyOnes_25 rfl) ?_
      refine Eq.trans (q_ld (w := 4) (by decide) dX7_heavyOnes_26 (al_7 _ _)) (q_ite ?_)
      rw [he_a0]
      show mx_D (_, _, _, _, .ref a0 :: _) _ = _
      exact q_callW (as := []) (rest := []) dX7_heavyOnes_27 mx_inv_7_50 hw_a0 rfl rfl ⟨Nat.le_of_ble_eq_true rfl, (by (generalize h.2.2 7 v2.toNatClampNeg = q9; cases q9) <;> exact Nat.le_of_ble_eq_true rfl), (Nat.le_of_ble_eq_true rfl)⟩
theorem e_X7_heavyOnes_30 (v1 : Int32) (v2 : Int32) (s0 : Int32) (h : mx_H)  : mx_D (2, mm_X7_heavyOnes, 30, [.ref 6, .int v1, .int v2], [.int s0]) h = if s0 = 0 then mx_D (2, mm_X7_heavyOnes, 36, [.ref 6, .int v1, .int v2], []) h else (mx_D (2, mm_X7_heavyOnes, 36, [.ref 6, .int (v1 + 1), .int v2], []) h) := by
  refine Eq.trans (q_if_eq 36 dX7_heavyOnes_30 rfl) (q_ite2 ?_ ?_)
  · rfl
  · refine Eq.trans (q_iinc (x' := 1) (L' := [.ref 6, .int (v1 + 1), .int v2]) dX7_heavyOnes_33 rfl rfl rfl) ?_
    rfl
theorem e_X7_heavyOnes_36 (v1 : Int32) (v2 : Int32) (h : mx_H)  : mx_D (2, mm_X7_heavyOnes, 36, [.ref 6, .int v1, .int v2], []) h = mx_D (2, mm_X7_heavyOnes, 4, [.ref 6, .int v1, .int (v2 + 1)], []) h := by
  refine Eq.trans (q_iinc (x' := 1) (L' := [.ref 6, .int v1, .int (v2 + 1)]) dX7_heavyOnes_36 rfl rfl rfl) ?_
  refine Eq.trans (q_goto 4 dX7_heavyOnes_39 rfl) ?_
  rfl
