theorem e_X1_bitOf_0 (v1 : Int32) (v2 : Int32) (h : mx_H)  : mx_D (1, mm_X1_bitOf, 0, [.ref 28, .int v1, .int v2], []) h = if v1 < 0 then mx_D (1, mm_X1_bitOf, 36, [.ref 28, .int v1, .int v2], []) h else (if (h.1 28 3) ≤ v1 then mx_D (1, mm_X1_bitOf, 36, [.ref 28, .int v1, .int v2], []) h else (if v2 < 0 then mx_D (1, mm_X1_bitOf, 36, [.ref 28, .int v1, .int v2], []) h else (if 8 ≤ v2 then mx_D (1, mm_X1_bitOf, 36, [.ref 28, .int v1, .int v2], []) h else (if mx_in ((8 * v1) + v2) 480 = true then mx_D (1, mm_X1_bitOf, 37, [.ref 28, .int v1, .int v2], [.int (h.1 29 (((8 * v1) + v2).toNatClampNeg))]) h else none)))) := by
  refine Eq.trans (q_iload_n dX1_bitOf_0 rfl) ?_
  refine Eq.trans (q_if_lt 36 dX1_bitOf_1 rfl) (q_ite2 ?_ ?_)
  · rfl
  · refine Eq.trans (q_iload_n dX1_bitOf_4 rfl) ?_
    refine Eq.trans (q_aload_n dX1_bitOf_5 rfl rfl) ?_
    refine Eq.trans (q_getf dX1_bitOf_6 mx_fld_1_32 (gf_28_3 _)) ?_
    refine Eq.trans (q_icmp_ge 36 dX1_bitOf_9 rfl) (q_ite2 ?_ ?_)
    · rfl
    · refine Eq.trans (q_iload_n dX1_bitOf_12 rfl) ?_
      refine Eq.trans (q_if_lt 36 dX1_bitOf_13 rfl) (q_ite2 ?_ ?_)
      · rfl
      · refine Eq.trans (q_iload_n dX1_bitOf_16 rfl) ?_
        refine Eq.trans (q_bipush (x := 8) dX1_bitOf_17 rfl) ?_
        refine Eq.trans (q_icmp_ge 36 dX1_bitOf_19 rfl) (q_ite2 ?_ ?_)
        · rfl
        · refine Eq.trans (q_aload_n dX1_bitOf_22 rfl rfl) ?_
          refine Eq.trans (q_getf dX1_bitOf_23 mx_fld_1_11 (gf_28_2 _)) ?_
          refine Eq.trans (q_bipush (x := 8) dX1_bitOf_26 rfl) ?_
          refine Eq.trans (q_iload_n dX1_bitOf_28 rfl) ?_
          refine Eq.trans (q_imul dX1_bitOf_29) ?_
          refine Eq.trans (q_iload_n dX1_bitOf_30 rfl) ?_
          refine Eq.trans (q_iadd dX1_bitOf_31) ?_
          refine Eq.trans (q_ld (w := 0) (by decide) dX1_bitOf_32 (al_29 _ _)) (q_ite ?_)
          refine Eq.trans (q_goto 37 dX1_bitOf_33 rfl) ?_
          rfl
theorem c_X1_bitOf (v1 : Int32) (v2 : Int32) (h : mx_H) : mx_C mm_X1_bitOf [.ref 28, .int v1, .int v2] h = mx_D (1, mm_X1_bitOf, 0, [.ref 28, .int v1, .int v2], []) h := rfl
theorem e_X1_bitOf_36 (v1 : Int32) (v2 : Int32) (h : mx_H)  : mx_D (1, mm_X1_bitOf, 36, [.ref 28, .int v1, .int v2], []) h = mx_D (1, mm_X1_bitOf, 37, [.ref 28, .int v1, .int v2], [.int 1]) h := by
  refine Eq.trans (q_iconst (x := 1) dX1_bitOf_36 rfl) ?_
  rfl
theorem e_X1_bitOf_37 (v1 : Int32) (v2 : Int32) (s0 : Int32) (h : mx_H)  : mx_D (1, mm_X1_bitOf, 37, [.ref 28, .int v1, .int v2], [.int s0]) h = some (some (.int s0), h) := by
  exact q_retI dX1_bitOf_37 rfl
theorem e_X1_set_0 (v1 : Int32) (v2 : Int32) (h : mx_H)  : mx_D (1, mm_X1_set, 0, [.ref 28, .int v1, .int v2], []) h = if 60 ≤ (h.1 28 3) then mx_D (1, mm_X1_set, 34, [.ref 28, .int v1, .int v2], []) h else (if v1 < 0 then mx_D (1, mm_X1_set, 34, [.ref 28, .int v1, .int v2], []) h else (if 8 ≤ v1 then mx_D (1, mm_X1_set, 34, [.ref 28, .int v1, .int v2], []) h else (if mx_in ((8 * (h.1 28 3)) + v1) 480 = true then mx_D (1, mm_X1_set, 34, [.ref 28, .int v1, .int v2], []) ((mx_u h.1 29 (((8 * (h.1 28 3)) + v1).toNatClampNeg) v2), h.2.1, h.2.2) else none))) := by
  refine Eq.trans (q_aload_n dX1_set_0 rfl rfl) ?_
  refine Eq.trans (q_getf dX1_set_1 mx_fld_1_32 (gf_28_3 _)) ?_
  refine Eq.trans (q_bipush (x := 60) dX1_set_4 rfl) ?_
  refine Eq.trans (q_icmp_ge 34 dX1_set_6 rfl) (q_ite2 ?_ ?_)
  · rfl
  · refine Eq.trans (q_iload_n dX1_set_9 rfl) ?_
    refine Eq.trans (q_if_lt 34 dX1_set_10 rfl) (q_ite2 ?_ ?_)
    · rfl
    · refine Eq.trans (q_iload_n dX1_set_13 rfl) ?_
      refine Eq.trans (q_bipush (x := 8) dX1_set_14 rfl) ?_
      refine Eq.trans (q_icmp_ge 34 dX1_set_16 rfl) (q_ite2 ?_ ?_)
      · rfl
      · refine Eq.trans (q_aload_n dX1_set_19 rfl rfl) ?_
        refine Eq.trans (q_getf dX1_set_20 mx_fld_1_11 (gf_28_2 _)) ?_
        refine Eq.trans (q_bipush (x := 8) dX1_set_23 rfl) ?_
        refine Eq.trans (q_aload_n dX1_set_25 rfl rfl) ?_
        refine Eq.trans (q_getf dX1_set_26 mx_fld_1_32 (gf_28_3 _)) ?_
        refine Eq.trans (q_imul dX1_set_29) ?_
        refine Eq.trans (q_iload_n dX1_set_30 rfl) ?_
        refine Eq.trans (q_iadd dX1_set_31) ?_
        refine Eq.trans (q_iload_n dX1_set_32 rfl) ?_
        refine Eq.trans (q_st (w := 0) (by decide) dX1_set_33 (as_29 _ _ _)) (q_ite ?_)
        rfl
theorem c_X1_set (v1 : Int32) (v2 : Int32) (h : mx_H) : mx_C mm_X1_set [.ref 28, .int v1, .int v2] h = mx_D (1, mm_X1_set, 0, [.ref 28, .int v1, .int v2], []) h := rfl
theorem e_X1_set_34 (v1 : Int32) (v2 : Int32) (h : mx_H)  : mx_D (1, mm_X1_set, 34, [.ref 28, .int v1, .int v2], []) h = some (none, h) := by
  exact q_retV dX1_set_34 rfl
theorem e_X1_grow_0 (v1 : Value) (v2 : Value) (v3 : Value) (v4 : Value) (h : mx_H)  : mx_D (14, mm_X1_grow, 0, [.ref 28, v1, v2, v3, v4], []) h = if (h.1 6 4) ≤ (h.1 28 3) then mx_D (14, mm_X1_grow, 274, [.ref 28, v1, v2, v3, v4], []) h else (if 60 ≤ (h.1 28 3) then mx_D (14, mm_X1_grow, 274, [.ref 28, v1, v2, v3, v4], []) h else ((mx_C mm_X7_opOf [.ref 6, .int (h.1 28 3)] h).bind (fun o => mx_D (14, mm_X1_grow, 34, [.ref 28, v1, v2, v3, v4], o.1.toList ++ []) o.2))) := by
  refine Eq.trans (q_aload_n dX1_grow_0 rfl rfl) ?_
  refine Eq.trans (q_getf dX1_grow_1 mx_fld_1_32 (gf_28_3 _)) ?_
  refine Eq.trans (q_aload_n dX1_grow_4 rfl rfl) ?_
  refine Eq.trans (q_getf dX1_grow_5 mx_fld_1_24 (gf_28_0 _)) ?_
  refine Eq.trans (q_getf dX1_grow_8 mx_fld_1_36 (gf_6_4 _)) ?_
  refine Eq.trans (q_icmp_ge 274 dX1_grow_11 rfl) (q_ite2 ?_ ?_)
  · rfl
  · refine Eq.trans (q_aload_n dX1_grow_14 rfl rfl) ?_
    refine Eq.trans (q_getf dX1_grow_15 mx_fld_1_32 (gf_28_3 _)) ?_
    refine Eq.trans (q_bipush (x := 60) dX1_grow_18 rfl) ?_
    refine Eq.trans (q_icmp_ge 274 dX1_grow_20 rfl) (q_ite2 ?_ ?_)
    · rfl
    · refine Eq.trans (q_aload_n dX1_grow_23 rfl rfl) ?_
      refine Eq.trans (q_getf dX1_grow_24 mx_fld_1_24 (gf_28_0 _)) ?_
      refine Eq.trans (q_aload_n dX1_grow_27 rfl rfl) ?_
      refine Eq.trans (q_getf dX1_grow_28 mx_fld_1_32 (gf_28_3 _)) ?_
      exact q_call0 (as := [.int (h.1 28 3)]) (rest := []) dX1_grow_31 mx_inv_1_41 rfl rfl rfl ⟨Nat.le_of_ble_eq_true rfl, Nat.le_of_ble_eq_true rfl, (Nat.le_of_ble_eq_true rfl)⟩
theorem c_X1_grow  (h : mx_H) : mx_C mm_X1_grow [.ref 28] h = mx_D (14, mm_X1_grow, 0, [.ref 28, mx_junk, mx_junk, mx_junk, mx_junk], []) h := rfl
theorem e_X1_grow_34 (v1 : Value) (v2 : Value) (v3 : Value) (v4 : Value) (s0 : Option Nat) (h : mx_H)  : mx_D (14, mm_X1_grow, 34, [.ref 28, v1, v2, v3, v4], [mx_rf s0]) h = (mx_C mm_X7_partOf [.ref 6, .int (h.1 28 3), .int 0] h).bind (fun o => mx_D (14, mm_X1_grow, 47, [.ref 28, mx_rf s0, v2, v3, v4], o.1.toList ++ []) o.2) := by
  refine Eq.trans (q_astore_n (L' := [.ref 28, mx_rf s0, v2, v3, v4]) dX1_grow_34 (mx_ar_rf _) (Nat.le_of_ble_eq_true rfl) rfl) ?_
  refine Eq.trans (q_aload_n dX1_grow_35 rfl rfl) ?_
  refine Eq.trans (q_getf dX1_grow_36 mx_fld_1_24 (gf_28_0 _)) ?_
  refine Eq.trans (q_aload_n dX1_grow_39 rfl rfl) ?_
  refine Eq.trans (q_getf dX1_grow_40 mx_fld_1_32 (gf_28_3 _)) ?_
  refine Eq.trans (q_iconst (x := 0) dX1_grow_43 rfl) ?_
  exact q_call0 (as := [.int (h.1 28 3), .int 0]) (rest := []) dX1_grow_44 mx_inv_1_45 rfl rfl rfl ⟨Nat.le_of_ble_eq_true rfl, Nat.le_of_ble_eq_true rfl, (Nat.le_of_ble_eq_true rfl)⟩
theorem e_X1_grow_47 (v1 : Option Nat) (v2 : Value) (v3 : Value) (v4 : Value) (s0 : Int32) (h : mx_H)  : mx_D (14, mm_X1_grow, 47, [.ref 28, mx_rf v1, v2, v3, v4], [.int s0]) h = (mx_C mm_X7_partOf [.ref 6, .int (h.1 28 3), .int 1] h).bind (fun o => mx_D (14, mm_X1_grow, 60, [.ref 28, mx_rf v1, .int s0, v3, v4], o.1.toList ++ []) o.2) := by
  refine Eq.trans (q_istore_n (L' := [.ref 28, mx_rf v1, .int s0, v3, v4]) dX1_grow_47 (Nat.le_of_ble_eq_true rfl) (by cases v1 <;> exact rfl)) ?_
  refine Eq.trans (q_aload_n dX1_grow_48 rfl rfl) ?_
  refine Eq.trans (q_getf dX1_grow_49 mx_fld_1_24 (gf_28_0 _)) ?_
  refine Eq.trans (q_aload_n dX1_grow_52 rfl rfl) ?_
  refine Eq.trans (q_getf dX1_grow_53 mx_fld_1_32 (gf_28_3 _)) ?_
  refine Eq.trans (q_iconst (x := 1) dX1_grow_56 rfl) ?_
  exact q_call0 (as := [.int (h.1 28 3), .int 1]) (rest := []) dX1_grow_57 mx_inv_1_45 rfl rfl rfl ⟨Nat.le_of_ble_eq_true rfl, Nat.le_of_ble_eq_true rfl, (Nat.le_of_ble_eq_true rfl)⟩
theorem e_X1_grow_60 (v1 : Option Nat) (v2 : Int32) (v3 : Value) (v4 : Value) (s0 : Int32) (h : mx_H)  : mx_D (14, mm_X1_grow, 60, [.ref 28, mx_rf v1, .int v2, v3, v4], [.int s0]) h = (mx_C mm_X7_partOf [.ref 6, .int (h.1 28 3), .int 2] h).bind (fun o => mx_D (14, mm_X1_grow, 73, [.ref 28, mx_rf v1, .int v2, .int s0, v4], o.1.toList ++ []) o.2) := by
  refine Eq.trans (q_istore_n (L' := [.ref 28, mx_rf v1, .int v2, .int s0, v4]) dX1_grow_60 (Nat.le_of_ble_eq_true rfl) rfl) ?_
  refine Eq.trans (q_aload_n dX1_grow_61 rfl rfl) ?_
  refine Eq.trans (q_getf dX1_grow_62 mx_fld_1_24 (gf_28_0 _)) ?_
  refine Eq.trans (q_aload_n dX1_grow_65 rfl rfl) ?_
  refine Eq.trans (q_getf dX1_grow_66 mx_fld_1_32 (gf_28_3 _)) ?_
  refine Eq.trans (q_iconst (x := 2) dX1_grow_69 rfl) ?_
  exact q_call0 (as := [.int (h.1 28 3), .int 2]) (rest := []) dX1_grow_70 mx_inv_1_45 rfl rfl rfl ⟨Nat.le_of_ble_eq_true rfl, Nat.le_of_ble_eq_true rfl, (Nat.le_of_ble_eq_true rfl)⟩
theorem e_X1_grow_73 (v1 : Nat) (hw_v1 : 1000 ≤ v1 ∧ v1 < 1042) (v2 : Int32) (v3 : Int32) (v4 : Value) (s0 : Int32) (h : mx_H)  : mx_D (14, mm_X1_grow, 73, [.ref 28, .ref v1, .int v2, .int v3, v4], [.int s0]) h = if (.ref v1 : Value) = .null then mx_D (14, mm_X1_grow, 87, [.ref 28, .ref v1, .int v2, .int v3, .int s0], [.int 0]) h else (mx_D (14, mm_X1_grow, 87, [.ref 28, .ref v1, .int v2, .int v3, .int s0], [.int ((mx_wsh.getD (v1 - 1000) (0, 0)).1)]) h) := by
  refine Eq.trans (q_istore (L' := [.ref 28, .ref v1, .int v2, .int v3, .int s0]) dX1_grow_73 (Nat.le_of_ble_eq_true rfl) rfl) ?_
  refine Eq.trans (q_aload_n dX1_grow_75 rfl rfl) ?_
  refine Eq.trans (q_ifnonnull 83 dX1_grow_76 rfl rfl) (q_ite2 ?_ ?_)
  · refine Eq.trans (q_iconst (x := 0) dX1_grow_79 rfl) ?_
    refine Eq.trans (q_goto 87 dX1_grow_80 rfl) ?_
    rfl
  · refine Eq.trans (q_aload_n dX1_grow_83 rfl rfl) ?_
    refine Eq.trans (q_getw dX1_grow_84 mx_fld_1_49 hw_v1 rfl) ?_
    rfl
theorem e_X1_grow_87_1 (v1 : Option Nat) (v2 : Int32) (v3 : Int32) (v4 : Int32) (h : mx_H) : mx_D (14, mm_X1_grow, 87, [.ref 28, mx_rf v1, .int v2, .int v3, .int v4], [.int 1]) h = mx_D (14, mm_X1_grow, 136, [.ref 28, mx_rf v1, .int v2, .int v3, .int v4], []) h := q_tsw 136 dX1_grow_87 rfl rfl
theorem e_X1_grow_87_2 (v1 : Option Nat) (v2 : Int32) (v3 : Int32) (v4 : Int32) (h : mx_H) : mx_D (14, mm_X1_grow, 87, [.ref 28, mx_rf v1, .int v2, .int v3, .int v4], [.int 2]) h = mx_D (14, mm_X1_grow, 161, [.ref 28, mx_rf v1, .int v2, .int v3, .int v4], []) h := q_tsw 161 dX1_grow_87 rfl rfl
theorem e_X1_grow_87_3 (v1 : Option Nat) (v2 : Int32) (v3 : Int32) (v4 : Int32) (h : mx_H) : mx_D (14, mm_X1_grow, 87, [.ref 28, mx_rf v1, .int v2, .int v3, .int v4], [.int 3]) h = mx_D (14, mm_X1_grow, 193, [.ref 28, mx_rf v1, .int v2, .int v3, .int v4], []) h := q_tsw 193 dX1_grow_87 rfl rfl
theorem e_X1_grow_87_4 (v1 : Option Nat) (v2 : Int32) (v3 : Int32) (v4 : Int32) (h : mx_H) : mx_D (14, mm_X1_grow, 87, [.ref 28, mx_rf v1, .int v2, .int v3, .int v4], [.int 4]) h = mx_D (14, mm_X1_grow, 209, [.ref 28, mx_rf v1, .int v2, .int v3, .int v4], []) h := q_tsw 209 dX1_grow_87 rfl rfl
theorem e_X1_grow_87_5 (v1 : Option Nat) (v2 : Int32) (v3 : Int32) (v4 : Int32) (h : mx_H) : mx_D (14, mm_X1_grow, 87, [.ref 28, mx_rf v1, .int v2, .int v3, .int v4], [.int 5]) h = mx_D (14, mm_X1_grow, 219, [.ref 28, mx_rf v1, .int v2, .int v3, .int v4], []) h := q_tsw 219 dX1_grow_87 rfl rfl
theorem e_X1_grow_87_6 (v1 : Option Nat) (v2 : Int32) (v3 : Int32) (v4 : Int32) (h : mx_H) : mx_D (14, mm_X1_grow, 87, [.ref 28, mx_rf v1, .int v2, .int v3, .int v4], [.int 6]) h = mx_D (14, mm_X1_grow, 234, [.ref 28, mx_rf v1, .int v2, .int v3, .int v4], []) h := q_tsw 234 dX1_grow_87 rfl rfl
theorem e_X1_grow_87_7 (v1 : Option Nat) (v2 : Int32) (v3 : Int32) (v4 : Int32) (h : mx_H) : mx_D (14, mm_X1_grow, 87, [.ref 28, mx_rf v1, .int v2, .int v3, .int v4], [.int 7]) h = mx_D (14, mm_X1_grow, 234, [.ref 28, mx_rf v1, .int v2, .int v3, .int v4], []) h := q_tsw 234 dX1_grow_87 rfl rfl
theorem e_X1_grow_87_8 (v1 : Option Nat) (v2 : Int32) (v3 : Int32) (v4 : Int32) (h : mx_H) : mx_D (14, mm_X1_grow, 87, [.ref 28, mx_rf v1, .int v2, .int v3, .int v4], [.int 8]) h = mx_D (14, mm_X1_grow, 234, [.ref 28, mx_rf v1, .int v2, .int v3, .int v4], []) h := q_tsw 234 dX1_grow_87 rfl rfl
theorem e_X1_grow_87_9 (v1 : Option Nat) (v2 : Int32) (v3 : Int32) (v4 : Int32) (h : mx_H) : mx_D (14, mm_X1_grow, 87, [.ref 28, mx_rf v1, .int v2, .int v3, .int v4], [.int 9]) h = mx_D (14, mm_X1_grow, 244, [.ref 28, mx_rf v1, .int v2, .int v3, .int v4], []) h := q_tsw 244 dX1_grow_87 rfl rfl
theorem e_X1_grow_87_d (v1 : Option Nat) (v2 : Int32) (v3 : Int32) (v4 : Int32) (x : Int32) (hx : x.toInt < 1 ∨ 9 < x.toInt) (h : mx_H) : mx_D (14, mm_X1_grow, 87, [.ref 28, mx_rf v1, .int v2, .int v3, .int v4], [.int x]) h = mx_D (14, mm_X1_grow, 256, [.ref 28, mx_rf v1, .int v2, .int v3, .int v4], []) h := q_tsw 256 dX1_grow_87 (if_pos hx) rfl
theorem e_X1_grow_136 (v1 : Option Nat) (v2 : Int32) (v3 : Int32) (v4 : Int32) (h : mx_H)  : mx_D (14, mm_X1_grow, 136, [.ref 28, mx_rf v1, .int v2, .int v3, .int v4], []) h = (mx_C mm_X1_bitOf [.ref 28, .int v2, .int 0] h).bind (fun o => mx_D (14, mm_X1_grow, 146, [.ref 28, mx_rf v1, .int v2, .int v3, .int v4], o.1.toList ++ [mx_rf v1, .ref 28, .int 0, .ref 28]) o.2) := by
  refine Eq.trans (q_aload_n dX1_grow_136 rfl rfl) ?_
  refine Eq.trans (q_iconst (x := 0) dX1_grow_137 rfl) ?_
  refine Eq.trans (q_aload_n dX1_grow_138 rfl rfl) ?_
  refine Eq.trans (q_aload_n dX1_grow_139 rfl (mx_ar_rf _)) ?_
  refine Eq.trans (q_aload_n dX1_grow_140 rfl rfl) ?_
  refine Eq.trans (q_iload_n dX1_grow_141 rfl) ?_
  refine Eq.trans (q_iconst (x := 0) dX1_grow_142 rfl) ?_
  exact q_call0 (as := [.int v2, .int 0]) (rest := [mx_rf v1, .ref 28, .int 0, .ref 28]) dX1_grow_143 mx_inv_1_54 rfl rfl rfl ⟨(by cases v1 <;> exact Nat.le_of_ble_eq_true rfl), Nat.le_of_ble_eq_true rfl, (Nat.le_of_ble_eq_true rfl)⟩
theorem e_X1_grow_146 (v1 : Option Nat) (v2 : Int32) (v3 : Int32) (v4 : Int32) (s1 : Int32) (s3 : Option Nat) (s4 : Int32) (h : mx_H)  : mx_D (14, mm_X1_grow, 146, [.ref 28, mx_rf v1, .int v2, .int v3, .int v4], [.int s4, mx_rf s3, .ref 28, .int s1, .ref 28]) h = (mx_C mm_X1_bitOf [.ref 28, .int v3, .int 0] h).bind (fun o => mx_D (14, mm_X1_grow, 152, [.ref 28, mx_rf v1, .int v2, .int v3, .int v4], o.1.toList ++ [.int s4, mx_rf s3, .ref 28, .int s1, .ref 28]) o.2) := by
  refine Eq.trans (q_aload_n dX1_grow_146 rfl rfl) ?_
  refine Eq.trans (q_iload_n dX1_grow_147 rfl) ?_
  refine Eq.trans (q_iconst (x := 0) dX1_grow_148 rfl) ?_
  exact q_call0 (as := [.int v3, .int 0]) (rest := [.int s4, mx_rf s3, .ref 28, .int s1, .ref 28]) dX1_grow_149 mx_inv_1_54 rfl rfl rfl ⟨(by cases s3 <;> exact Nat.le_of_ble_eq_true rfl), Nat.le_of_ble_eq_true rfl, (Nat.le_of_ble_eq_true rfl)⟩
theorem e_X1_grow_152 (v1 : Option Nat) (v2 : Int32) (v3 : Int32) (v4 : Int32) (s1 : Int32) (s3 : Option Nat) (s4 : Int32) (s5 : Int32) (h : mx_H)  : mx_D (14, mm_X1_grow, 152, [.ref 28, mx_rf v1, .int v2, .int v3, .int v4], [.int s5, .int s4, mx_rf s3, .ref 28, .int s1, .ref 28]) h = (mx_C mm_X1_logic [.ref 28, mx_rf s3, .int s4, .int s5] h).bind (fun o => mx_D (14, mm_X1_grow, 155, [.ref 28, mx_rf v1, .int v2, .int v3, .int v4], o.1.toList ++ [.int s1, .ref 28]) o.2) := by
  exact q_call0 (as := [mx_rf s3, .int s4, .int s5]) (rest := [.int s1, .ref 28]) dX1_grow_152 mx_inv_1_57 rfl rfl rfl ⟨Nat.le_of_ble_eq_true rfl, (by cases s3 <;> exact Nat.le_of_ble_eq_true rfl), (Nat.le_of_ble_eq_true rfl)⟩
theorem e_X1_grow_155 (v1 : Option Nat) (v2 : Int32) (v3 : Int32) (v4 : Int32) (s1 : Int32) (s2 : Int32) (h : mx_H)  : mx_D (14, mm_X1_grow, 155, [.ref 28, mx_rf v1, .int v2, .int v3, .int v4], [.int s2, .int s1, .ref 28]) h = (mx_C mm_X1_set [.ref 28, .int s1, .int s2] h).bind (fun o => mx_D (14, mm_X1_grow, 158, [.ref 28, mx_rf v1, .int v2, .int v3, .int v4], o.1.toList ++ []) o.2) := by
  exact q_call0 (as := [.int s1, .int s2]) (rest := []) dX1_grow_155 mx_inv_1_61 rfl rfl rfl ⟨Nat.le_of_ble_eq_true rfl, Nat.le_of_ble_eq_true rfl, (Nat.le_of_ble_eq_true rfl)⟩
theorem e_X1_grow_158 (v1 : Option Nat) (v2 : Int32) (v3 : Int32) (v4 : Int32) (h : mx_H)  : mx_D (14, mm_X1_grow, 158, [.ref 28, mx_rf v1, .int v2, .int v3, .int v4], []) h = mx_D (14, mm_X1_grow, 261, [.ref 28, mx_rf v1, .int v2, .int v3, .int v4], []) h := by
  refine Eq.trans (q_goto 261 dX1_grow_158 rfl) ?_
  rfl
theorem e_X1_grow_161 (v1 : Option Nat) (v2 : Int32) (v3 : Int32) (v4 : Int32) (h : mx_H) (hq0 : mx_wr (mx_rf v1) = true) : mx_D (14, mm_X1_grow, 161, [.ref 28, mx_rf v1, .int v2, .int v3, .int v4], []) h = if (mx_rf v1 : Value) = .ref 1016 then (mx_C mm_X1_equal [.ref 28, .int v2, .int v3] h).bind (fun o => mx_D (14, mm_X1_grow, 176, [.ref 28, mx_rf v1, .int v2, .int v3, .int v4], o.1.toList ++ [.int 0, .ref 28]) o.2) else ((mx_C mm_X1_equal [.ref 28, .int v2, .int v3] h).bind (fun o => mx_D (14, mm_X1_grow, 185, [.ref 28, mx_rf v1, .int v2, .int v3, .int v4], o.1.toList ++ [.int 0, .ref 28]) o.2)) := by
  refine Eq.trans (q_aload_n dX1_grow_161 rfl rfl) ?_
  refine Eq.trans (q_iconst (x := 0) dX1_grow_162 rfl) ?_
  refine Eq.trans (q_aload_n dX1_grow_163 rfl (mx_ar_rf _)) ?_
  refine Eq.trans (q_gets dX1_grow_164 mx_sta_1_65) ?_
  refine Eq.trans (q_acmp_ne 179 dX1_grow_167 hq0 rfl rfl) (q_ite2 ?_ ?_)
  · refine Eq.trans (q_aload_n dX1_grow_170 rfl rfl) ?_
    refine Eq.trans (q_iload_n dX1_grow_171 rfl) ?_
    refine Eq.trans (q_iload_n dX1_grow_172 rfl) ?_
    exact q_call0 (as := [.int v2, .int v3]) (rest := [.int 0, .ref 28]) dX1_grow_173 mx_inv_1_69 rfl rfl rfl ⟨Nat.le_of_ble_eq_true rfl, Nat.le_of_ble_eq_true rfl, (Nat.le_of_ble_eq_true rfl)⟩
  · refine Eq.trans (q_aload_n dX1_grow_179 rfl rfl) ?_
    refine Eq.trans (q_iload_n dX1_grow_180 rfl) ?_
    refine Eq.trans (q_iload_n dX1_grow_181 rfl) ?_
    exact q_call0 (as := [.int v2, .int v3]) (rest := [.int 0, .ref 28]) dX1_grow_182 mx_inv_1_69 rfl rfl rfl ⟨Nat.le_of_ble_eq_true rfl, Nat.le_of_ble_eq_true rfl, (Nat.le_of_ble_eq_true rfl)⟩
theorem e_X1_grow_176 (v1 : Option Nat) (v2 : Int32) (v3 : Int32) (v4 : Int32) (s1 : Int32) (s2 : Int32) (h : mx_H)  : mx_D (14, mm_X1_grow, 176, [.ref 28, mx_rf v1, .int v2, .int v3, .int v4], [.int s2, .int s1, .ref 28]) h = mx_D (14, mm_X1_grow, 187, [.ref 28, mx_rf v1, .int v2, .int v3, .int v4], [.int s2, .int s1, .ref 28]) h := by
  refine Eq.trans (q_goto 187 dX1_grow_176 rfl) ?_
  rfl
theorem e_X1_grow_185 (v1 : Option Nat) (v2 : Int32) (v3 : Int32) (v4 : Int32) (s1 : Int32) (s2 : Int32) (h : mx_H)  : mx_D (14, mm_X1_grow, 185, [.ref 28, mx_rf v1, .int v2, .int v3, .int v4], [.int s2, .int s1, .ref 28]) h = mx_D (14, mm_X1_grow, 187, [.ref 28, mx_rf v1, .int v2, .int v3, .int v4], [.int (s2 ^^^ 1), .int s1, .ref 28]) h := by
  refine Eq.trans (q_iconst (x := 1) dX1_grow_185 rfl) ?_
  refine Eq.trans (q_ixor dX1_grow_186) ?_
  rfl
theorem e_X1_grow_187 (v1 : Option Nat) (v2 : Int32) (v3 : Int32) (v4 : Int32) (s1 : Int32) (s2 : Int32) (h : mx_H)  : mx_D (14, mm_X1_grow, 187, [.ref 28, mx_rf v1, .int v2, .int v3, .int v4], [.int s2, .int s1, .ref 28]) h = (mx_C mm_X1_set [.ref 28, .int s1, .int s2] h).bind (fun o => mx_D (14, mm_X1_grow, 190, [.ref 28, mx_rf v1, .int v2, .int v3, .int v4], o.1.toList ++ []) o.2) := by
  exact q_call0 (as := [.int s1, .int s2]) (rest := []) dX1_grow_187 mx_inv_1_61 rfl rfl rfl ⟨Nat.le_of_ble_eq_true rfl, Nat.le_of_ble_eq_true rfl, (Nat.le_of_ble_eq_true rfl)⟩
theorem e_X1_grow_190 (v1 : Option Nat) (v2 : Int32) (v3 : Int32) (v4 : Int32) (h : mx_H)  : mx_D (14, mm_X1_grow, 190, [.ref 28, mx_rf v1, .int v2, .int v3, .int v4], []) h = mx_D (14, mm_X1_grow, 261, [.ref 28, mx_rf v1, .int v2, .int v3, .int v4], []) h := by
  refine Eq.trans (q_goto 261 dX1_grow_190 rfl) ?_
  rfl
theorem e_X1_grow_193 (v1 : Option Nat) (v2 : Int32) (v3 : Int32) (v4 : Int32) (h : mx_H)  : mx_D (14, mm_X1_grow, 193, [.ref 28, mx_rf v1, .int v2, .int v3, .int v4], []) h = (mx_C mm_X1_bitOf [.ref 28, .int v2, .int 0] h).bind (fun o => mx_D (14, mm_X1_grow, 200, [.ref 28, mx_rf v1, .int v2, .int v3, .int v4], o.1.toList ++ [.ref 28]) o.2) := by
  refine Eq.trans (q_aload_n dX1_grow_193 rfl rfl) ?_
  refine Eq.trans (q_aload_n dX1_grow_194 rfl rfl) ?_
  refine Eq.trans (q_iload_n dX1_grow_195 rfl) ?_
  refine Eq.trans (q_iconst (x := 0) dX1_grow_196 rfl) ?_
  exact q_call0 (as := [.int v2, .int 0]) (rest := [.ref 28]) dX1_grow_197 mx_inv_1_54 rfl rfl rfl ⟨Nat.le_of_ble_eq_true rfl, Nat.le_of_ble_eq_true rfl, (Nat.le_of_ble_eq_true rfl)⟩
theorem e_X1_grow_200 (v1 : Option Nat) (v2 : Int32) (v3 : Int32) (v4 : Int32) (s1 : Int32) (h : mx_H)  : mx_D (14, mm_X1_grow, 200, [.ref 28, mx_rf v1, .int v2, .int v3, .int v4], [.int s1, .ref 28]) h = (mx_C mm_X1_choose [.ref 28, .int s1, .int v3, .int v4] h).bind (fun o => mx_D (14, mm_X1_grow, 206, [.ref 28, mx_rf v1, .int v2, .int v3, .int v4], o.1.toList ++ []) o.2) := by
  refine Eq.trans (q_iload_n dX1_grow_200 rfl) ?_
  refine Eq.trans (q_iload dX1_grow_201 rfl) ?_
  exact q_call0 (as := [.int s1, .int v3, .int v4]) (rest := []) dX1_grow_203 mx_inv_1_72 rfl rfl rfl ⟨Nat.le_of_ble_eq_true rfl, Nat.le_of_ble_eq_true rfl, (Nat.le_of_ble_eq_true rfl)⟩
theorem e_X1_grow_206 (v1 : Option Nat) (v2 : Int32) (v3 : Int32) (v4 : Int32) (h : mx_H)  : mx_D (14, mm_X1_grow, 206, [.ref 28, mx_rf v1, .int v2, .int v3, .int v4], []) h = mx_D (14, mm_X1_grow, 261, [.ref 28, mx_rf v1, .int v2, .int v3, .int v4], []) h := by
  refine Eq.trans (q_goto 261 dX1_grow_206 rfl) ?_
  rfl
theorem e_X1_grow_209 (v1 : Option Nat) (v2 : Int32) (v3 : Int32) (v4 : Int32) (h : mx_H)  : mx_D (14, mm_X1_grow, 209, [.ref 28, mx_rf v1, .int v2, .int v3, .int v4], []) h = (mx_C mm_X1_calculate [.ref 28, mx_rf v1, .int v2, .int v3] h).bind (fun o => mx_D (14, mm_X1_grow, 216, [.ref 28, mx_rf v1, .int v2, .int v3, .int v4], o.1.toList ++ []) o.2) := by
  refine Eq.trans (q_aload_n dX1_grow_209 rfl rfl) ?_
  refine Eq.trans (q_aload_n dX1_grow_210 rfl (mx_ar_rf _)) ?_
  refine Eq.trans (q_iload_n dX1_grow_211 rfl) ?_
  refine Eq.trans (q_iload_n dX1_grow_212 rfl) ?_
  exact q_call0 (as := [mx_rf v1, .int v2, .int v3]) (rest := []) dX1_grow_213 mx_inv_1_76 rfl rfl rfl ⟨Nat.le_of_ble_eq_true rfl, (by cases v1 <;> exact Nat.le_of_ble_eq_true rfl), (Nat.le_of_ble_eq_true rfl)⟩
theorem e_X1_grow_216 (v1 : Option Nat) (v2 : Int32) (v3 : Int32) (v4 : Int32) (h : mx_H)  : mx_D (14, mm_X1_grow, 216, [.ref 28, mx_rf v1, .int v2, .int v3, .int v4], []) h = mx_D (14, mm_X1_grow, 261, [.ref 28, mx_rf v1, .int v2, .int v3, .int v4], []) h := by
  refine Eq.trans (q_goto 261 dX1_grow_216 rfl) ?_
  rfl
theorem e_X1_grow_219 (v1 : Option Nat) (v2 : Int32) (v3 : Int32) (v4 : Int32) (h : mx_H)  : mx_D (14, mm_X1_grow, 219, [.ref 28, mx_rf v1, .int v2, .int v3, .int v4], []) h = (mx_C mm_X1_less [.ref 28, mx_rf v1, .int v2, .int v3] h).bind (fun o => mx_D (14, mm_X1_grow, 228, [.ref 28, mx_rf v1, .int v2, .int v3, .int v4], o.1.toList ++ [.int 0, .ref 28]) o.2) := by
  refine Eq.trans (q_aload_n dX1_grow_219 rfl rfl) ?_
  refine Eq.trans (q_iconst (x := 0) dX1_grow_220 rfl) ?_
  refine Eq.trans (q_aload_n dX1_grow_221 rfl rfl) ?_
  refine Eq.trans (q_aload_n dX1_grow_222 rfl (mx_ar_rf _)) ?_
  refine Eq.trans (q_iload_n dX1_grow_223 rfl) ?_
  refine Eq.trans (q_iload_n dX1_grow_224 rfl) ?_
  exact q_call0 (as := [mx_rf v1, .int v2, .int v3]) (rest := [.int 0, .ref 28]) dX1_grow_225 mx_inv_1_80 rfl rfl rfl ⟨Nat.le_of_ble_eq_true rfl, (by cases v1 <;> exact Nat.le_of_ble_eq_true rfl), (Nat.le_of_ble_eq_true rfl)⟩
theorem e_X1_grow_228 (v1 : Option Nat) (v2 : Int32) (v3 : Int32) (v4 : Int32) (s1 : Int32) (s2 : Int32) (h : mx_H)  : mx_D (14, mm_X1_grow, 228, [.ref 28, mx_rf v1, .int v2, .int v3, .int v4], [.int s2, .int s1, .ref 28]) h = (mx_C mm_X1_set [.ref 28, .int s1, .int s2] h).bind (fun o => mx_D (14, mm_X1_grow, 231, [.ref 28, mx_rf v1, .int v2, .int v3, .int v4], o.1.toList ++ []) o.2) := by
  exact q_call0 (as := [.int s1, .int s2]) (rest := []) dX1_grow_228 mx_inv_1_61 rfl rfl rfl ⟨Nat.le_of_ble_eq_true rfl, Nat.le_of_ble_eq_true rfl, (Nat.le_of_ble_eq_true rfl)⟩
theorem e_X1_grow_231 (v1 : Option Nat) (v2 : Int32) (v3 : Int32) (v4 : Int32) (h : mx_H)  : mx_D (14, mm_X1_grow, 231, [.ref 28, mx_rf v1, .int v2, .int v3, .int v4], []) h = mx_D (14, mm_X1_grow, 261, [.ref 28, mx_rf v1, .int v2, .int v3, .int v4], []) h := by
  refine Eq.trans (q_goto 261 dX1_grow_231 rfl) ?_
  rfl
theorem e_X1_grow_234 (v1 : Option Nat) (v2 : Int32) (v3 : Int32) (v4 : Int32) (h : mx_H)  : mx_D (14, mm_X1_grow, 234, [.ref 28, mx_rf v1, .int v2, .int v3, .int v4], []) h = (mx_C mm_X1_place [.ref 28, mx_rf v1, .int v2, .int v3] h).bind (fun o => mx_D (14, mm_X1_grow, 241, [.ref 28, mx_rf v1, .int v2, .int v3, .int v4], o.1.toList ++ []) o.2) := by
  refine Eq.trans (q_aload_n dX1_grow_234 rfl rfl) ?_
  refine Eq.trans (q_aload_n dX1_grow_235 rfl (mx_ar_rf _)) ?_
  refine Eq.trans (q_iload_n dX1_grow_236 rfl) ?_
  refine Eq.trans (q_iload_n dX1_grow_237 rfl) ?_
  exact q_call0 (as := [mx_rf v1, .int v2, .int v3]) (rest := []) dX1_grow_238 mx_inv_1_83 rfl rfl rfl ⟨Nat.le_of_ble_eq_true rfl, (by cases v1 <;> exact Nat.le_of_ble_eq_true rfl), (Nat.le_of_ble_eq_true rfl)⟩
theorem e_X1_grow_241 (v1 : Option Nat) (v2 : Int32) (v3 : Int32) (v4 : Int32) (h : mx_H)  : mx_D (14, mm_X1_grow, 241, [.ref 28, mx_rf v1, .int v2, .int v3, .int v4], []) h = mx_D (14, mm_X1_grow, 261, [.ref 28, mx_rf v1, .int v2, .int v3, .int v4], []) h := by
  refine Eq.trans (q_goto 261 dX1_grow_241 rfl) ?_
  rfl
theorem e_X1_grow_244 (v1 : Option Nat) (v2 : Int32) (v3 : Int32) (v4 : Int32) (h : mx_H)  : mx_D (14, mm_X1_grow, 244, [.ref 28, mx_rf v1, .int v2, .int v3, .int v4], []) h = (mx_C mm_X1_reach [.ref 28, mx_rf v1, .int v2, .int v3, .int v4] h).bind (fun o => mx_D (14, mm_X1_grow, 253, [.ref 28, mx_rf v1, .int v2, .int v3, .int v4], o.1.toList ++ []) o.2) := by
  refine Eq.trans (q_aload_n dX1_grow_244 rfl rfl) ?_
  refine Eq.trans (q_aload_n dX1_grow_245 rfl (mx_ar_rf _)) ?_
  refine Eq.trans (q_iload_n dX1_grow_246 rfl) ?_
  refine Eq.trans (q_iload_n dX1_grow_247 rfl) ?_
  refine Eq.trans (q_iload dX1_grow_248 rfl) ?_
  exact q_call0 (as := [mx_rf v1, .int v2, .int v3, .int v4]) (rest := []) dX1_grow_250 mx_inv_1_86 rfl rfl rfl ⟨Nat.le_of_ble_eq_true rfl, (by cases v1 <;> exact Nat.le_of_ble_eq_true rfl), (Nat.le_of_ble_eq_true rfl)⟩
theorem e_X1_grow_253 (v1 : Option Nat) (v2 : Int32) (v3 : Int32) (v4 : Int32) (h : mx_H)  : mx_D (14, mm_X1_grow, 253, [.ref 28, mx_rf v1, .int v2, .int v3, .int v4], []) h = mx_D (14, mm_X1_grow, 261, [.ref 28, mx_rf v1, .int v2, .int v3, .int v4], []) h := by
  refine Eq.trans (q_goto 261 dX1_grow_253 rfl) ?_
  rfl
theorem e_X1_grow_256 (v1 : Option Nat) (v2 : Int32) (v3 : Int32) (v4 : Int32) (h : mx_H)  : mx_D (14, mm_X1_grow, 256, [.ref 28, mx_rf v1, .int v2, .int v3, .int v4], []) h = (mx_C mm_X1_begin [.ref 28, mx_rf v1] h).bind (fun o => mx_D (14, mm_X1_grow, 261, [.ref 28, mx_rf v1, .int v2, .int v3, .int v4], o.1.toList ++ []) o.2) := by
  refine Eq.trans (q_aload_n dX1_grow_256 rfl rfl) ?_
  refine Eq.trans (q_aload_n dX1_grow_257 rfl (mx_ar_rf _)) ?_
  exact q_call0 (as := [mx_rf v1]) (rest := []) dX1_grow_258 mx_inv_1_90 rfl rfl rfl ⟨Nat.le_of_ble_eq_true rfl, (by cases v1 <;> exact Nat.le_of_ble_eq_true rfl), (Nat.le_of_ble_eq_true rfl)⟩
theorem e_X1_grow_261 (v1 : Option Nat) (v2 : Int32) (v3 : Int32) (v4 : Int32) (h : mx_H)  : mx_D (14, mm_X1_grow, 261, [.ref 28, mx_rf v1, .int v2, .int v3, .int v4], []) h = mx_D (14, mm_X1_grow, 0, [.ref 28, mx_rf v1, .int v2, .int v3, .int v4], []) ((mx_u h.1 28 3 ((h.1 28 3) + 1)), h.2.1, h.2.2) := by
  refine Eq.trans (q_aload_n dX1_grow_261 rfl rfl) ?_
  refine Eq.trans (q_dup dX1_grow_262 rfl) ?_
  refine Eq.trans (q_getf dX1_grow_263 mx_fld_1_32 (gf_28_3 _)) ?_
  refine Eq.trans (q_iconst (x := 1) dX1_grow_266 rfl) ?_
  refine Eq.trans (q_iadd dX1_grow_267) ?_
  refine Eq.trans (q_putf dX1_grow_268 mx_fld_1_32 (pf_28_3 _ _)) ?_
  refine Eq.trans (q_goto 0 dX1_grow_271 rfl) ?_
  rfl
theorem e_X1_grow_274 (v1 : Value) (v2 : Value) (v3 : Value) (v4 : Value) (h : mx_H)  : mx_D (14, mm_X1_grow, 274, [.ref 28, v1, v2, v3, v4], []) h = some (none, h) := by
  exact q_retV dX1_grow_274 rfl
theorem e_X1_widthOf_0 (v1 : Int32) (h : mx_H)  : mx_D (3, mm_X1_widthOf, 0, [.ref 28, .int v1], []) h = (mx_C mm_X7_sortOf [.ref 6, .int v1] h).bind (fun o => mx_D (3, mm_X1_widthOf, 8, [.ref 28, .int v1], o.1.toList ++ []) o.2) := by
  refine Eq.trans (q_aload_n dX1_widthOf_0 rfl rfl) ?_
  refine Eq.trans (q_getf dX1_widthOf_1 mx_fld_1_24 (gf_28_0 _)) ?_
  refine Eq.trans (q_iload_n dX1_widthOf_4 rfl) ?_
  exact q_call0 (as := [.int v1]) (rest := []) dX1_widthOf_5 mx_inv_1_94 rfl rfl rfl ⟨Nat.le_of_ble_eq_true rfl, Nat.le_of_ble_eq_true rfl, (Nat.le_of_ble_eq_true rfl)⟩
theorem c_X1_widthOf (v1 : Int32) (h : mx_H) : mx_C mm_X1_widthOf [.ref 28, .int v1] h = mx_D (3, mm_X1_widthOf, 0, [.ref 28, .int v1], []) h := rfl
theorem e_X1_widthOf_8 (v1 : Int32) (s0 : Int32) (h : mx_H)  : mx_D (3, mm_X1_widthOf, 8, [.ref 28, .int v1], [.int s0]) h = (mx_C mm_X10_bitsOf [.int s0] h).bind (fun o => mx_D (3, mm_X1_widthOf, 11, [.ref 28, .int v1], o.1.toList ++ []) o.2) := by
  exact q_call1 (as := [.int s0]) (rest := []) dX1_widthOf_8 mx_inv_1_98 rfl rfl ⟨Nat.le_of_ble_eq_true rfl, Nat.le_of_ble_eq_true rfl, (Nat.le_of_ble_eq_true rfl)⟩
theorem e_X1_widthOf_11 (v1 : Int32) (s0 : Int32) (h : mx_H)  : mx_D (3, mm_X1_widthOf, 11, [.ref 28, .int v1], [.int s0]) h = some (some (.int s0), h) := by
  exact q_retI dX1_widthOf_11 rfl
theorem e_X1_begin_0 (v1 : Option Nat) (h : mx_H)  : mx_D (4, mm_X1_begin, 0, [.ref 28, mx_rf v1, mx_junk, mx_junk], []) h = (mx_C mm_X7_numberOf [.ref 6, .int (h.1 28 3), .int 0] h).bind (fun o => mx_D (4, mm_X1_begin, 12, [.ref 28, mx_rf v1, mx_junk, mx_junk], o.1.toList ++ []) o.2) := by
  refine Eq.trans (q_aload_n dX1_begin_0 rfl rfl) ?_
  refine Eq.trans (q_getf dX1_begin_1 mx_fld_1_24 (gf_28_0 _)) ?_
  refine Eq.trans (q_aload_n dX1_begin_4 rfl rfl) ?_
  refine Eq.trans (q_getf dX1_begin_5 mx_fld_1_32 (gf_28_3 _)) ?_
  refine Eq.trans (q_iconst (x := 0) dX1_begin_8 rfl) ?_
  exact q_call0 (as := [.int (h.1 28 3), .int 0]) (rest := []) dX1_begin_9 mx_inv_1_101 rfl rfl rfl ⟨Nat.le_of_ble_eq_true rfl, Nat.le_of_ble_eq_true rfl, (Nat.le_of_ble_eq_true rfl)⟩
theorem c_X1_begin (v1 : Option Nat) (h : mx_H) : mx_C mm_X1_begin [.ref 28, mx_rf v1] h = mx_D (4, mm_X1_begin, 0, [.ref 28, mx_rf v1, mx_junk, mx_junk], []) h := (by cases v1 <;> exact rfl)
theorem e_X1_begin_12 (v1 : Option Nat) (s0 : Int32) (h : mx_H) (hq0 : mx_wr (mx_rf v1) = true) : mx_D (4, mm_X1_begin, 12, [.ref 28, mx_rf v1, mx_junk, mx_junk], [.int s0]) h = if (mx_rf v1 : Value) = .ref 1008 then mx_D (4, mm_X1_begin, 27, [.ref 28, mx_rf v1, .int s0, mx_junk], []) h else (if (mx_rf v1 : Value) = .ref 1009 then mx_D (4, mm_X1_begin, 27, [.ref 28, mx_rf v1, .int s0, mx_junk], []) h else (mx_D (4, mm_X1_begin, 47, [.ref 28, mx_rf v1, .int s0, .int 0], []) h)) := by
  refine Eq.trans (q_istore_n (L' := [.ref 28, mx_rf v1, .int s0, mx_junk]) dX1_begin_12 (Nat.le_of_ble_eq_true rfl) (by cases v1 <;> exact rfl)) ?_
  refine Eq.trans (q_aload_n dX1_begin_13 rfl (mx_ar_rf _)) ?_
  refine Eq.trans (q_gets dX1_begin_14 mx_sta_1_104) ?_
  refine Eq.trans (q_acmp_eq 27 dX1_begin_17 hq0 rfl rfl) (q_ite2 ?_ ?_)
  · rfl
  · refine Eq.trans (q_aload_n dX1_begin_20 rfl (mx_ar_rf _)) ?_
    refine Eq.trans (q_gets dX1_begin_21 mx_sta_1_107) ?_
    refine Eq.trans (q_acmp_ne 45 dX1_begin_24 hq0 rfl rfl) (q_ite2 ?_ ?_)
    · rfl
    · refine Eq.trans (q_iconst (x := 0) dX1_begin_45 rfl) ?_
      refine Eq.trans (q_istore_n (L' := [.ref 28, mx_rf v1, .int s0, .int 0]) dX1_begin_46 (Nat.le_of_ble_eq_true rfl) rfl) ?_
      rfl
theorem e_X1_begin_27 (v1 : Option Nat) (v2 : Int32) (h : mx_H) (hq0 : mx_wr (mx_rf v1) = true) : mx_D (4, mm_X1_begin, 27, [.ref 28, mx_rf v1, .int v2, mx_junk], []) h = if (mx_rf v1 : Value) = .ref 1008 then mx_D (4, mm_X1_begin, 41, [.ref 28, mx_rf v1, .int v2, mx_junk], [.int 0, .int 0, .ref 28]) h else (mx_D (4, mm_X1_begin, 41, [.ref 28, mx_rf v1, .int v2, mx_junk], [.int 1, .int 0, .ref 28]) h) := by
  refine Eq.trans (q_aload_n dX1_begin_27 rfl rfl) ?_
  refine Eq.trans (q_iconst (x := 0) dX1_begin_28 rfl) ?_
  refine Eq.trans (q_aload_n dX1_begin_29 rfl (mx_ar_rf _)) ?_
  refine Eq.trans (q_gets dX1_begin_30 mx_sta_1_104) ?_
  refine Eq.trans (q_acmp_ne 40 dX1_begin_33 hq0 rfl rfl) (q_ite2 ?_ ?_)
  · refine Eq.trans (q_iconst (x := 0) dX1_begin_36 rfl) ?_
    refine Eq.trans (q_goto 41 dX1_begin_37 rfl) ?_
    rfl
  · refine Eq.trans (q_iconst (x := 1) dX1_begin_40 rfl) ?_
    rfl
theorem e_X1_begin_41 (v1 : Option Nat) (v2 : Int32) (s1 : Int32) (s2 : Int32) (h : mx_H)  : mx_D (4, mm_X1_begin, 41, [.ref 28, mx_rf v1, .int v2, mx_junk], [.int s2, .int s1, .ref 28]) h = (mx_C mm_X1_set [.ref 28, .int s1, .int s2] h).bind (fun o => mx_D (4, mm_X1_begin, 44, [.ref 28, mx_rf v1, .int v2, mx_junk], o.1.toList ++ []) o.2) := by
  exact q_call0 (as := [.int s1, .int s2]) (rest := []) dX1_begin_41 mx_inv_1_61 rfl rfl rfl ⟨Nat.le_of_ble_eq_true rfl, Nat.le_of_ble_eq_true rfl, (Nat.le_of_ble_eq_true rfl)⟩
theorem e_X1_begin_44 (v1 : Option Nat) (v2 : Int32) (h : mx_H)  : mx_D (4, mm_X1_begin, 44, [.ref 28, mx_rf v1, .int v2, mx_junk], []) h = some (none, h) := by
  exact q_retV dX1_begin_44 rfl
theorem e_X1_begin_47 (v1 : Option Nat) (v2 : Int32) (v3 : Int32) (h : mx_H)  : mx_D (4, mm_X1_begin, 47, [.ref 28, mx_rf v1, .int v2, .int v3], []) h = (mx_C mm_X1_widthOf [.ref 28, .int (h.1 28 3)] h).bind (fun o => mx_D (4, mm_X1_begin, 56, [.ref 28, mx_rf v1, .int v2, .int v3], o.1.toList ++ [.int v3]) o.2) := by
  refine Eq.trans (q_iload_n dX1_begin_47 rfl) ?_
  refine Eq.trans (q_aload_n dX1_begin_48 rfl rfl) ?_
  refine Eq.trans (q_aload_n dX1_begin_49 rfl rfl) ?_
  refine Eq.trans (q_getf dX1_begin_50 mx_fld_1_32 (gf_28_3 _)) ?_
  exact q_call0 (as := [.int (h.1 28 3)]) (rest := [.int v3]) dX1_begin_53 mx_inv_1_110 rfl rfl rfl ⟨Nat.le_of_ble_eq_true rfl, Nat.le_of_ble_eq_true rfl, (Nat.le_of_ble_eq_true rfl)⟩
theorem e_X1_begin_56 (v1 : Option Nat) (v2 : Int32) (v3 : Int32) (s0 : Int32) (s1 : Int32) (h : mx_H) (hq0 : mx_wr (mx_rf v1) = true) : mx_D (4, mm_X1_begin, 56, [.ref 28, mx_rf v1, .int v2, .int v3], [.int s1, .int s0]) h = if s1 ≤ s0 then some (none, h) else (if (mx_rf v1 : Value) = .ref 1004 then (mx_C mm_X1_set [.ref 28, .int v3, .int (2 * ((1 + v2) + v3))] h).bind (fun o => mx_D (4, mm_X1_begin, 78, [.ref 28, mx_rf v1, .int v2, .int v3], o.1.toList ++ []) o.2) else (if ((v2 >>> (v3 &&& 31)) &&& 1) = 1 then mx_D (4, mm_X1_begin, 97, [.ref 28, mx_rf v1, .int v2, .int v3], [.int 0, .int v3, .ref 28]) h else (mx_D (4, mm_X1_begin, 97, [.ref 28, mx_rf v1, .int v2, .int v3], [.int 1, .int v3, .ref 28]) h))) := by
  refine Eq.trans (q_icmp_ge 106 dX1_begin_56 rfl) (q_ite2 ?_ ?_)
  · exact q_retV dX1_begin_106 rfl
  · refine Eq.trans (q_aload_n dX1_begin_59 rfl (mx_ar_rf _)) ?_
    refine Eq.trans (q_gets dX1_begin_60 mx_sta_1_113) ?_
    refine Eq.trans (q_acmp_ne 81 dX1_begin_63 hq0 rfl rfl) (q_ite2 ?_ ?_)
    · refine Eq.trans (q_aload_n dX1_begin_66 rfl rfl) ?_
      refine Eq.trans (q_iload_n dX1_begin_67 rfl) ?_
      refine Eq.trans (q_iconst (x := 2) dX1_begin_68 rfl) ?_
      refine Eq.trans (q_iconst (x := 1) dX1_begin_69 rfl) ?_
      refine Eq.trans (q_iload_n dX1_begin_70 rfl) ?_
      refine Eq.trans (q_iadd dX1_begin_71) ?_
      refine Eq.trans (q_iload_n dX1_begin_72 rfl) ?_
      refine Eq.trans (q_iadd dX1_begin_73) ?_
      refine Eq.trans (q_imul dX1_begin_74) ?_
      exact q_call0 (as := [.int v3, .int (2 * ((1 + v2) + v3))]) (rest := []) dX1_begin_75 mx_inv_1_61 rfl rfl rfl ⟨Nat.le_of_ble_eq_true rfl, Nat.le_of_ble_eq_true rfl, (Nat.le_of_ble_eq_true rfl)⟩
    · refine Eq.trans (q_aload_n dX1_begin_81 rfl rfl) ?_
      refine Eq.trans (q_iload_n dX1_begin_82 rfl) ?_
      refine Eq.trans (q_iload_n dX1_begin_83 rfl) ?_
      refine Eq.trans (q_iload_n dX1_begin_84 rfl) ?_
      refine Eq.trans (q_ishr dX1_begin_85) ?_
      refine Eq.trans (q_iconst (x := 1) dX1_begin_86 rfl) ?_
      refine Eq.trans (q_iand dX1_begin_87) ?_
      refine Eq.trans (q_iconst (x := 1) dX1_begin_88 rfl) ?_
      refine Eq.trans (q_icmp_ne 96 dX1_begin_89 rfl) (q_ite2 ?_ ?_)
      · refine Eq.trans (q_iconst (x := 0) dX1_begin_92 rfl) ?_
        refine Eq.trans (q_goto 97 dX1_begin_93 rfl) ?_
        rfl
      · refine Eq.trans (q_iconst (x := 1) dX1_begin_96 rfl) ?_
        rfl
theorem e_X1_begin_78 (v1 : Option Nat) (v2 : Int32) (v3 : Int32) (h : mx_H)  : mx_D (4, mm_X1_begin, 78, [.ref 28, mx_rf v1, .int v2, .int v3], []) h = mx_D (4, mm_X1_begin, 100, [.ref 28, mx_rf v1, .int v2, .int v3], []) h := by
  refine Eq.trans (q_goto 100 dX1_begin_78 rfl) ?_
  rfl
theorem e_X1_begin_97 (v1 : Option Nat) (v2 : Int32) (v3 : Int32) (s1 : Int32) (s2 : Int32) (h : mx_H)  : mx_D (4, mm_X1_begin, 97, [.ref 28, mx_rf v1, .int v2, .int v3], [.int s2, .int s1, .ref 28]) h = (mx_C mm_X1_set [.ref 28, .int s1, .int s2] h).bind (fun o => mx_D (4, mm_X1_begin, 100, [.ref 28, mx_rf v1, .int v2, .int v3], o.1.toList ++ []) o.2) := by
  exact q_call0 (as := [.int s1, .int s2]) (rest := []) dX1_begin_97 mx_inv_1_61 rfl rfl rfl ⟨Nat.le_of_ble_eq_true rfl, Nat.le_of_ble_eq_true rfl, (Nat.le_of_ble_eq_true rfl)⟩
theorem e_X1_begin_100 (v1 : Option Nat) (v2 : Int32) (v3 : Int32) (h : mx_H)  : mx_D (4, mm_X1_begin, 100, [.ref 28, mx_rf v1, .int v2, .int v3], []) h = mx_D (4, mm_X1_begin, 47, [.ref 28, mx_rf v1, .int v2, .int (v3 + 1)], []) h := by
  refine Eq.trans (q_iinc (x' := 1) (L' := [.ref 28, mx_rf v1, .int v2, .int (v3 + 1)]) dX1_begin_100 rfl rfl rfl) ?_
  refine Eq.trans (q_goto 47 dX1_begin_103 rfl) ?_
  rfl
theorem e_X1_logic_0 (v1 : Nat) (hw_v1 : 1000 ≤ v1 ∧ v1 < 1042) (v2 : Int32) (v3 : Int32) (h : mx_H)  : mx_D (12, mm_X1_logic, 0, [.ref 28, .ref v1, .int v2, .int v3], []) h = if mx_in (Int32.ofNat (v1 - 1000)) 42 = true then mx_D (12, mm_X1_logic, 8, [.ref 28, .ref v1, .int v2, .int v3], [.int (mx_swm ((Int32.ofNat (v1 - 1000)).toNatClampNeg))]) h else none := by
  refine Eq.trans (q_gets dX1_logic_0 mx_sta_1_116) ?_
  refine Eq.trans (q_aload_n dX1_logic_3 rfl rfl) ?_
  refine Eq.trans (q_ord dX1_logic_4 mx_inv_1_121 hw_v1 (by simp)) ?_
  refine Eq.trans (q_ld (w := 0) (by decide) dX1_logic_7 (mx_ld_2001)) (q_ite ?_)
  rfl
theorem c_X1_logic (v1 : Option Nat) (v2 : Int32) (v3 : Int32) (h : mx_H) : mx_C mm_X1_logic [.ref 28, mx_rf v1, .int v2, .int v3] h = mx_D (12, mm_X1_logic, 0, [.ref 28, mx_rf v1, .int v2, .int v3], []) h := (by cases v1 <;> exact rfl)
theorem e_X1_logic_8_4 (v1 : Option Nat) (v2 : Int32) (v3 : Int32) (h : mx_H) : mx_D (12, mm_X1_logic, 8, [.ref 28, mx_rf v1, .int v2, .int v3], [.int 4]) h = mx_D (12, mm_X1_logic, 40, [.ref 28, mx_rf v1, .int v2, .int v3], []) h := q_tsw 40 dX1_logic_8 rfl rfl
theorem e_X1_logic_8_5 (v1 : Option Nat) (v2 : Int32) (v3 : Int32) (h : mx_H) : mx_D (12, mm_X1_logic, 8, [.ref 28, mx_rf v1, .int v2, .int v3], [.int 5]) h = mx_D (12, mm_X1_logic, 44, [.ref 28, mx_rf v1, .int v2, .int v3], []) h := q_tsw 44 dX1_logic_8 rfl rfl
theorem e_X1_logic_8_6 (v1 : Option Nat) (v2 : Int32) (v3 : Int32) (h : mx_H) : mx_D (12, mm_X1_logic, 8, [.ref 28, mx_rf v1, .int v2, .int v3], [.int 6]) h = mx_D (12, mm_X1_logic, 54, [.ref 28, mx_rf v1, .int v2, .int v3], []) h := q_tsw 54 dX1_logic_8 rfl rfl
theorem e_X1_logic_8_7 (v1 : Option Nat) (v2 : Int32) (v3 : Int32) (h : mx_H) : mx_D (12, mm_X1_logic, 8, [.ref 28, mx_rf v1, .int v2, .int v3], [.int 7]) h = mx_D (12, mm_X1_logic, 64, [.ref 28, mx_rf v1, .int v2, .int v3], []) h := q_tsw 64 dX1_logic_8 rfl rfl
theorem e_X1_logic_8_d (v1 : Option Nat) (v2 : Int32) (v3 : Int32) (x : Int32) (hx : x.toInt < 4 ∨ 7 < x.toInt) (h : mx_H) : mx_D (12, mm_X1_logic, 8, [.ref 28, mx_rf v1, .int v2, .int v3], [.int x]) h = mx_D (12, mm_X1_logic, 74, [.ref 28, mx_rf v1, .int v2, .int v3], []) h := q_tsw 74 dX1_logic_8 (if_pos hx) rfl
