theorem e_X4_read_0  (h : mx_H)  : mx_D (36, mm_X4_read, 0, [.ref 18, mx_junk], []) h = (mx_C mm_X4_bracket [.ref 18, .int 40] ((mx_u (mx_u (mx_u h.1 18 3 0) 18 11 0) 18 4 0), h.2.1, h.2.2)).bind (fun o => mx_D (36, mm_X4_read, 21, [.ref 18, mx_junk], o.1.toList ++ []) o.2) := by
  refine Eq.trans (q_aload_n dX4_read_0 rfl rfl) ?_
  refine Eq.trans (q_iconst (x := 0) dX4_read_1 rfl) ?_
  refine Eq.trans (q_putf dX4_read_2 mx_fld_4_33 (pf_18_3 _ _)) ?_
  refine Eq.trans (q_aload_n dX4_read_5 rfl rfl) ?_
  refine Eq.trans (q_iconst (x := 0) dX4_read_6 rfl) ?_
  refine Eq.trans (q_putf dX4_read_7 mx_fld_4_37 (pf_18_11 _ _)) ?_
  refine Eq.trans (q_aload_n dX4_read_10 rfl rfl) ?_
  refine Eq.trans (q_iconst (x := 0) dX4_read_11 rfl) ?_
  refine Eq.trans (q_putf dX4_read_12 mx_fld_4_40 (pf_18_4 _ _)) ?_
  refine Eq.trans (q_aload_n dX4_read_15 rfl rfl) ?_
  refine Eq.trans (q_bipush (x := 40) dX4_read_16 rfl) ?_
  exact q_call0 (as := [.int 40]) (rest := []) dX4_read_18 mx_inv_4_43 rfl rfl rfl ⟨Nat.le_of_ble_eq_true rfl, Nat.le_of_ble_eq_true rfl, (Nat.le_of_ble_eq_true rfl)⟩
theorem c_X4_read  (h : mx_H) : mx_C mm_X4_read [.ref 18] h = mx_D (36, mm_X4_read, 0, [.ref 18, mx_junk], []) h := rfl
theorem e_X4_read_21 (s0 : Int32) (h : mx_H)  : mx_D (36, mm_X4_read, 21, [.ref 18, mx_junk], [.int s0]) h = if s0 = 0 then some (some (.null), h) else ((mx_C mm_X8_wordAt [.ref 1, .int (h.1 18 3)] h).bind (fun o => mx_D (36, mm_X4_read, 37, [.ref 18, mx_junk], o.1.toList ++ []) o.2)) := by
  refine Eq.trans (q_if_ne 26 dX4_read_21 rfl) (q_ite2 ?_ ?_)
  · refine Eq.trans (q_null dX4_read_24) ?_
    exact q_retA dX4_read_25 rfl rfl
  · refine Eq.trans (q_aload_n dX4_read_26 rfl rfl) ?_
    refine Eq.trans (q_getf dX4_read_27 mx_fld_4_21 (gf_18_0 _)) ?_
    refine Eq.trans (q_aload_n dX4_read_30 rfl rfl) ?_
    refine Eq.trans (q_getf dX4_read_31 mx_fld_4_33 (gf_18_3 _)) ?_
    exact q_call0 (as := [.int (h.1 18 3)]) (rest := []) dX4_read_34 mx_inv_4_47 rfl rfl rfl ⟨Nat.le_of_ble_eq_true rfl, Nat.le_of_ble_eq_true rfl, (Nat.le_of_ble_eq_true rfl)⟩
theorem e_X4_read_37 (s0 : Option Nat) (h : mx_H)  : mx_D (36, mm_X4_read, 37, [.ref 18, mx_junk], [mx_rf s0]) h = (mx_C mm_X4_readBehind [.ref 18, mx_rf s0] h).bind (fun o => mx_D (36, mm_X4_read, 43, [.ref 18, mx_rf s0], o.1.toList ++ []) o.2) := by
  refine Eq.trans (q_astore_n (L' := [.ref 18, mx_rf s0]) dX4_read_37 (mx_ar_rf _) (Nat.le_of_ble_eq_true rfl) rfl) ?_
  refine Eq.trans (q_aload_n dX4_read_38 rfl rfl) ?_
  refine Eq.trans (q_aload_n dX4_read_39 rfl (mx_ar_rf _)) ?_
  exact q_call0 (as := [mx_rf s0]) (rest := []) dX4_read_40 mx_inv_4_53 rfl rfl rfl ⟨Nat.le_of_ble_eq_true rfl, (by cases s0 <;> exact Nat.le_of_ble_eq_true rfl), (Nat.le_of_ble_eq_true rfl)⟩
theorem e_X4_read_43 (v1 : Option Nat) (s0 : Int32) (h : mx_H)  : mx_D (36, mm_X4_read, 43, [.ref 18, mx_rf v1], [.int s0]) h = if s0 = 0 then mx_D (36, mm_X4_read, 55, [.ref 18, mx_rf v1], []) h else ((mx_C mm_X4_bracket [.ref 18, .int 41] h).bind (fun o => mx_D (36, mm_X4_read, 52, [.ref 18, mx_rf v1], o.1.toList ++ []) o.2)) := by
  refine Eq.trans (q_if_eq 55 dX4_read_43 rfl) (q_ite2 ?_ ?_)
  · rfl
  · refine Eq.trans (q_aload_n dX4_read_46 rfl rfl) ?_
    refine Eq.trans (q_bipush (x := 41) dX4_read_47 rfl) ?_
    exact q_call0 (as := [.int 41]) (rest := []) dX4_read_49 mx_inv_4_43 rfl rfl rfl ⟨Nat.le_of_ble_eq_true rfl, Nat.le_of_ble_eq_true rfl, (Nat.le_of_ble_eq_true rfl)⟩
theorem e_X4_read_52 (v1 : Option Nat) (s0 : Int32) (h : mx_H)  : mx_D (36, mm_X4_read, 52, [.ref 18, mx_rf v1], [.int s0]) h = if s0 = 0 then mx_D (36, mm_X4_read, 55, [.ref 18, mx_rf v1], []) h else ((mx_C mm_X8_isEnd [.ref 1, .int (h.1 18 3)] h).bind (fun o => mx_D (36, mm_X4_read, 68, [.ref 18, mx_rf v1], o.1.toList ++ []) o.2)) := by
  refine Eq.trans (q_if_ne 57 dX4_read_52 rfl) (q_ite2 ?_ ?_)
  · rfl
  · refine Eq.trans (q_aload_n dX4_read_57 rfl rfl) ?_
    refine Eq.trans (q_getf dX4_read_58 mx_fld_4_21 (gf_18_0 _)) ?_
    refine Eq.trans (q_aload_n dX4_read_61 rfl rfl) ?_
    refine Eq.trans (q_getf dX4_read_62 mx_fld_4_33 (gf_18_3 _)) ?_
    exact q_call0 (as := [.int (h.1 18 3)]) (rest := []) dX4_read_65 mx_inv_4_57 rfl rfl rfl ⟨Nat.le_of_ble_eq_true rfl, Nat.le_of_ble_eq_true rfl, (Nat.le_of_ble_eq_true rfl)⟩
theorem e_X4_read_55 (v1 : Option Nat) (h : mx_H)  : mx_D (36, mm_X4_read, 55, [.ref 18, mx_rf v1], []) h = some (some (.null), h) := by
  refine Eq.trans (q_null dX4_read_55) ?_
  exact q_retA dX4_read_56 rfl rfl
theorem e_X4_read_68 (v1 : Option Nat) (s0 : Int32) (h : mx_H)  : mx_D (36, mm_X4_read, 68, [.ref 18, mx_rf v1], [.int s0]) h = if s0 = 0 then (mx_C mm_X4_failAt [.ref 18, .int (h.1 18 3)] h).bind (fun o => mx_D (36, mm_X4_read, 79, [.ref 18, mx_rf v1], o.1.toList ++ []) o.2) else (some (some (mx_rf v1), h)) := by
  refine Eq.trans (q_if_ne 82 dX4_read_68 rfl) (q_ite2 ?_ ?_)
  · refine Eq.trans (q_aload_n dX4_read_71 rfl rfl) ?_
    refine Eq.trans (q_aload_n dX4_read_72 rfl rfl) ?_
    refine Eq.trans (q_getf dX4_read_73 mx_fld_4_33 (gf_18_3 _)) ?_
    exact q_call0 (as := [.int (h.1 18 3)]) (rest := []) dX4_read_76 mx_inv_4_61 rfl rfl rfl ⟨Nat.le_of_ble_eq_true rfl, Nat.le_of_ble_eq_true rfl, (Nat.le_of_ble_eq_true rfl)⟩
  · refine Eq.trans (q_aload_n dX4_read_82 rfl (mx_ar_rf _)) ?_
    exact q_retA dX4_read_83 rfl (mx_ar_rf _)
theorem e_X4_read_79 (v1 : Option Nat) (s0 : Int32) (h : mx_H)  : mx_D (36, mm_X4_read, 79, [.ref 18, mx_rf v1], [.int s0]) h = some (some (.null), h) := by
  refine Eq.trans (q_pop dX4_read_79 rfl) ?_
  refine Eq.trans (q_null dX4_read_80) ?_
  exact q_retA dX4_read_81 rfl rfl
theorem e_X4_readBehind_0 (v1 : Option Nat) (h : mx_H) (hq0 : mx_wr (mx_rf v1) = true) (hr1 : mx_rank mm_X4_readTerm [.ref 18, .int 1] < 35) : mx_D (35, mm_X4_readBehind, 0, [.ref 18, mx_rf v1, mx_junk, mx_junk], []) h = if (mx_rf v1 : Value) = .ref 1006 then mx_D (35, mm_X4_readBehind, 29, [.ref 18, mx_rf v1, .int (h.1 18 3), mx_junk], []) ((mx_u h.1 18 3 ((h.1 18 3) + 1)), h.2.1, h.2.2) else (if (mx_rf v1 : Value) = .ref 1007 then mx_D (35, mm_X4_readBehind, 29, [.ref 18, mx_rf v1, .int (h.1 18 3), mx_junk], []) ((mx_u h.1 18 3 ((h.1 18 3) + 1)), h.2.1, h.2.2) else (if (mx_rf v1 : Value) = .ref 1004 then (mx_C mm_X4_readNewName [.ref 18] ((mx_u h.1 18 3 ((h.1 18 3) + 1)), h.2.1, h.2.2)).bind (fun o => mx_D (35, mm_X4_readBehind, 42, [.ref 18, mx_rf v1, .int (h.1 18 3), mx_junk], o.1.toList ++ []) o.2) else (if (mx_rf v1 : Value) = .ref 1005 then (mx_C mm_X4_readTerm [.ref 18, .int 1] ((mx_u h.1 18 3 ((h.1 18 3) + 1)), h.2.1, h.2.2)).bind (fun o => mx_D (35, mm_X4_readBehind, 76, [.ref 18, mx_rf v1, .int (h.1 18 3), .int ((mx_u h.1 18 3 ((h.1 18 3) + 1)) 18 3)], o.1.toList ++ [.ref 18]) o.2) else ((mx_C mm_X4_failAt [.ref 18, .int (h.1 18 3)] ((mx_u h.1 18 3 ((h.1 18 3) + 1)), h.2.1, h.2.2)).bind (fun o => mx_D (35, mm_X4_readBehind, 120, [.ref 18, mx_rf v1, .int (h.1 18 3), mx_junk], o.1.toList ++ []) o.2))))) := by
  refine Eq.trans (q_aload_n dX4_readBehind_0 rfl rfl) ?_
  refine Eq.trans (q_getf dX4_readBehind_1 mx_fld_4_33 (gf_18_3 _)) ?_
  refine Eq.trans (q_istore_n (L' := [.ref 18, mx_rf v1, .int (h.1 18 3), mx_junk]) dX4_readBehind_4 (Nat.le_of_ble_eq_true rfl) (by cases v1 <;> exact rfl)) ?_
  refine Eq.trans (q_aload_n dX4_readBehind_5 rfl rfl) ?_
  refine Eq.trans (q_dup dX4_readBehind_6 rfl) ?_
  refine Eq.trans (q_getf dX4_readBehind_7 mx_fld_4_33 (gf_18_3 _)) ?_
  refine Eq.trans (q_iconst (x := 1) dX4_readBehind_10 rfl) ?_
  refine Eq.trans (q_iadd dX4_readBehind_11) ?_
  refine Eq.trans (q_putf dX4_readBehind_12 mx_fld_4_33 (pf_18_3 _ _)) ?_
  refine Eq.trans (q_aload_n dX4_readBehind_15 rfl (mx_ar_rf _)) ?_
  refine Eq.trans (q_gets dX4_readBehind_16 mx_sta_4_64) ?_
  refine Eq.trans (q_acmp_eq 29 dX4_readBehind_19 hq0 rfl rfl) (q_ite2 ?_ ?_)
  · rfl
  · refine Eq.trans (q_aload_n dX4_readBehind_22 rfl (mx_ar_rf _)) ?_
    refine Eq.trans (q_gets dX4_readBehind_23 mx_sta_4_70) ?_
    refine Eq.trans (q_acmp_ne 31 dX4_readBehind_26 hq0 rfl rfl) (q_ite2 ?_ ?_)
    · rfl
    · refine Eq.trans (q_aload_n dX4_readBehind_31 rfl (mx_ar_rf _)) ?_
      refine Eq.trans (q_gets dX4_readBehind_32 mx_sta_4_73) ?_
      refine Eq.trans (q_acmp_ne 58 dX4_readBehind_35 hq0 rfl rfl) (q_ite2 ?_ ?_)
      · refine Eq.trans (q_aload_n dX4_readBehind_38 rfl rfl) ?_
        exact q_call0 (as := []) (rest := []) dX4_readBehind_39 mx_inv_4_76 rfl rfl rfl ⟨Nat.le_of_ble_eq_true rfl, Nat.le_of_ble_eq_true rfl, (Nat.le_of_ble_eq_true rfl)⟩
      · refine Eq.trans (q_aload_n dX4_readBehind_58 rfl (mx_ar_rf _)) ?_
        refine Eq.trans (q_gets dX4_readBehind_59 mx_sta_4_83) ?_
        refine Eq.trans (q_acmp_ne 115 dX4_readBehind_62 hq0 rfl rfl) (q_ite2 ?_ ?_)
        · refine Eq.trans (q_aload_n dX4_readBehind_65 rfl rfl) ?_
          refine Eq.trans (q_getf dX4_readBehind_66 mx_fld_4_33 (gf_18_3 _)) ?_
          refine Eq.trans (q_istore_n (L' := [.ref 18, mx_rf v1, .int (h.1 18 3), .int ((mx_u h.1 18 3 ((h.1 18 3) + 1)) 18 3)]) dX4_readBehind_69 (Nat.le_of_ble_eq_true rfl) rfl) ?_
          refine Eq.trans (q_aload_n dX4_readBehind_70 rfl rfl) ?_
          refine Eq.trans (q_aload_n dX4_readBehind_71 rfl rfl) ?_
          refine Eq.trans (q_iconst (x := 1) dX4_readBehind_72 rfl) ?_
          exact q_call0 (as := [.int 1]) (rest := [.ref 18]) dX4_readBehind_73 mx_inv_4_86 rfl rfl rfl ⟨Nat.le_of_ble_eq_true rfl, Nat.le_of_ble_eq_true rfl, hr1⟩
        · refine Eq.trans (q_aload_n dX4_readBehind_115 rfl rfl) ?_
          refine Eq.trans (q_iload_n dX4_readBehind_116 rfl) ?_
          exact q_call0 (as := [.int (h.1 18 3)]) (rest := []) dX4_readBehind_117 mx_inv_4_61 rfl rfl rfl ⟨Nat.le_of_ble_eq_true rfl, Nat.le_of_ble_eq_true rfl, (Nat.le_of_ble_eq_true rfl)⟩
theorem c_X4_readBehind (v1 : Option Nat) (h : mx_H) : mx_C mm_X4_readBehind [.ref 18, mx_rf v1] h = mx_D (35, mm_X4_readBehind, 0, [.ref 18, mx_rf v1, mx_junk, mx_junk], []) h := (by cases v1 <;> exact rfl)
theorem e_X4_readBehind_29 (v1 : Option Nat) (v2 : Int32) (h : mx_H)  : mx_D (35, mm_X4_readBehind, 29, [.ref 18, mx_rf v1, .int v2, mx_junk], []) h = some (some (.int 1), h) := by
  refine Eq.trans (q_iconst (x := 1) dX4_readBehind_29 rfl) ?_
  exact Eq.trans (q_ret dX4_readBehind_30 rfl) (if_pos rfl)
theorem e_X4_readBehind_42 (v1 : Option Nat) (v2 : Int32) (s0 : Int32) (h : mx_H)  : mx_D (35, mm_X4_readBehind, 42, [.ref 18, mx_rf v1, .int v2, mx_junk], [.int s0]) h = if s0 = 0 then mx_D (35, mm_X4_readBehind, 56, [.ref 18, mx_rf v1, .int v2, mx_junk], []) h else ((mx_C mm_X4_readSort [.ref 18] h).bind (fun o => mx_D (35, mm_X4_readBehind, 49, [.ref 18, mx_rf v1, .int v2, mx_junk], o.1.toList ++ []) o.2)) := by
  refine Eq.trans (q_if_eq 56 dX4_readBehind_42 rfl) (q_ite2 ?_ ?_)
  · rfl
  · refine Eq.trans (q_aload_n dX4_readBehind_45 rfl rfl) ?_
    exact q_call0 (as := []) (rest := []) dX4_readBehind_46 mx_inv_4_80 rfl rfl rfl ⟨Nat.le_of_ble_eq_true rfl, Nat.le_of_ble_eq_true rfl, (Nat.le_of_ble_eq_true rfl)⟩
theorem e_X4_readBehind_49 (v1 : Option Nat) (v2 : Int32) (s0 : Int32) (h : mx_H)  : mx_D (35, mm_X4_readBehind, 49, [.ref 18, mx_rf v1, .int v2, mx_junk], [.int s0]) h = if s0 = 0 then mx_D (35, mm_X4_readBehind, 56, [.ref 18, mx_rf v1, .int v2, mx_junk], []) h else (mx_D (35, mm_X4_readBehind, 57, [.ref 18, mx_rf v1, .int v2, mx_junk], [.int 1]) h) := by
  refine Eq.trans (q_if_eq 56 dX4_readBehind_49 rfl) (q_ite2 ?_ ?_)
  · rfl
  · refine Eq.trans (q_iconst (x := 1) dX4_readBehind_52 rfl) ?_
    refine Eq.trans (q_goto 57 dX4_readBehind_53 rfl) ?_
    rfl
theorem e_X4_readBehind_56 (v1 : Option Nat) (v2 : Int32) (h : mx_H)  : mx_D (35, mm_X4_readBehind, 56, [.ref 18, mx_rf v1, .int v2, mx_junk], []) h = mx_D (35, mm_X4_readBehind, 57, [.ref 18, mx_rf v1, .int v2, mx_junk], [.int 0]) h := by
  refine Eq.trans (q_iconst (x := 0) dX4_readBehind_56 rfl) ?_
  rfl
theorem e_X4_readBehind_57 (v1 : Option Nat) (v2 : Int32) (s0 : Int32) (h : mx_H)  : mx_D (35, mm_X4_readBehind, 57, [.ref 18, mx_rf v1, .int v2, mx_junk], [.int s0]) h = if narrow .boolean (.int s0) = .int s0 then some (some (.int s0), h) else none := by
  exact q_ret dX4_readBehind_57 rfl
theorem e_X4_readBehind_76 (v1 : Option Nat) (v2 : Int32) (v3 : Int32) (s1 : Int32) (h : mx_H)  : mx_D (35, mm_X4_readBehind, 76, [.ref 18, mx_rf v1, .int v2, .int v3], [.int s1, .ref 18]) h = if ((mx_u h.1 18 7 s1) 18 7) = ((-1)) then mx_D (35, mm_X4_readBehind, 113, [.ref 18, mx_rf v1, .int v2, .int v3], []) ((mx_u h.1 18 7 s1), h.2.1, h.2.2) else ((mx_C mm_X7_sortOf [.ref 6, .int ((mx_u h.1 18 7 s1) 18 7)] ((mx_u h.1 18 7 s1), h.2.1, h.2.2)).bind (fun o => mx_D (35, mm_X4_readBehind, 98, [.ref 18, mx_rf v1, .int v2, .int v3], o.1.toList ++ []) o.2)) := by
  refine Eq.trans (q_putf dX4_readBehind_76 mx_fld_4_90 (pf_18_7 _ _)) ?_
  refine Eq.trans (q_aload_n dX4_readBehind_79 rfl rfl) ?_
  refine Eq.trans (q_getf dX4_readBehind_80 mx_fld_4_90 (gf_18_7 _)) ?_
  refine Eq.trans (q_iconst (x := (-1)) dX4_readBehind_83 rfl) ?_
  refine Eq.trans (q_icmp_eq 113 dX4_readBehind_84 rfl) (q_ite2 ?_ ?_)
  · rfl
  · refine Eq.trans (q_aload_n dX4_readBehind_87 rfl rfl) ?_
    refine Eq.trans (q_getf dX4_readBehind_88 mx_fld_4_25 (gf_18_1 _)) ?_
    refine Eq.trans (q_aload_n dX4_readBehind_91 rfl rfl) ?_
    refine Eq.trans (q_getf dX4_readBehind_92 mx_fld_4_90 (gf_18_7 _)) ?_
    exact q_call0 (as := [.int ((mx_u h.1 18 7 s1) 18 7)]) (rest := []) dX4_readBehind_95 mx_inv_4_93 rfl rfl rfl ⟨Nat.le_of_ble_eq_true rfl, Nat.le_of_ble_eq_true rfl, (Nat.le_of_ble_eq_true rfl)⟩
theorem e_X4_readBehind_98 (v1 : Option Nat) (v2 : Int32) (v3 : Int32) (s0 : Int32) (h : mx_H)  : mx_D (35, mm_X4_readBehind, 98, [.ref 18, mx_rf v1, .int v2, .int v3], [.int s0]) h = if s0 = 0 then mx_D (35, mm_X4_readBehind, 109, [.ref 18, mx_rf v1, .int v2, .int v3], []) h else ((mx_C mm_X4_failAt [.ref 18, .int v3] h).bind (fun o => mx_D (35, mm_X4_readBehind, 106, [.ref 18, mx_rf v1, .int v2, .int v3], o.1.toList ++ []) o.2)) := by
  refine Eq.trans (q_if_eq 109 dX4_readBehind_98 rfl) (q_ite2 ?_ ?_)
  · rfl
  · refine Eq.trans (q_aload_n dX4_readBehind_101 rfl rfl) ?_
    refine Eq.trans (q_iload_n dX4_readBehind_102 rfl) ?_
    exact q_call0 (as := [.int v3]) (rest := []) dX4_readBehind_103 mx_inv_4_61 rfl rfl rfl ⟨Nat.le_of_ble_eq_true rfl, Nat.le_of_ble_eq_true rfl, (Nat.le_of_ble_eq_true rfl)⟩
theorem e_X4_readBehind_106 (v1 : Option Nat) (v2 : Int32) (v3 : Int32) (s0 : Int32) (h : mx_H)  : mx_D (35, mm_X4_readBehind, 106, [.ref 18, mx_rf v1, .int v2, .int v3], [.int s0]) h = if s0 = 0 then mx_D (35, mm_X4_readBehind, 113, [.ref 18, mx_rf v1, .int v2, .int v3], []) h else (mx_D (35, mm_X4_readBehind, 109, [.ref 18, mx_rf v1, .int v2, .int v3], []) h) := by
  refine Eq.trans (q_if_eq 113 dX4_readBehind_106 rfl) (q_ite2 ?_ ?_)
  · rfl
  · rfl
theorem e_X4_readBehind_109 (v1 : Option Nat) (v2 : Int32) (v3 : Int32) (h : mx_H)  : mx_D (35, mm_X4_readBehind, 109, [.ref 18, mx_rf v1, .int v2, .int v3], []) h = mx_D (35, mm_X4_readBehind, 114, [.ref 18, mx_rf v1, .int v2, .int v3], [.int 1]) h := by
  refine Eq.trans (q_iconst (x := 1) dX4_readBehind_109 rfl) ?_
  refine Eq.trans (q_goto 114 dX4_readBehind_110 rfl) ?_
  rfl
theorem e_X4_readBehind_113 (v1 : Option Nat) (v2 : Int32) (v3 : Int32) (h : mx_H)  : mx_D (35, mm_X4_readBehind, 113, [.ref 18, mx_rf v1, .int v2, .int v3], []) h = mx_D (35, mm_X4_readBehind, 114, [.ref 18, mx_rf v1, .int v2, .int v3], [.int 0]) h := by
  refine Eq.trans (q_iconst (x := 0) dX4_readBehind_113 rfl) ?_
  rfl
theorem e_X4_readBehind_114 (v1 : Option Nat) (v2 : Int32) (v3 : Int32) (s0 : Int32) (h : mx_H)  : mx_D (35, mm_X4_readBehind, 114, [.ref 18, mx_rf v1, .int v2, .int v3], [.int s0]) h = if narrow .boolean (.int s0) = .int s0 then some (some (.int s0), h) else none := by
  exact q_ret dX4_readBehind_114 rfl
theorem e_X4_readBehind_120 (v1 : Option Nat) (v2 : Int32) (s0 : Int32) (h : mx_H)  : mx_D (35, mm_X4_readBehind, 120, [.ref 18, mx_rf v1, .int v2, mx_junk], [.int s0]) h = if narrow .boolean (.int s0) = .int s0 then some (some (.int s0), h) else none := by
  exact q_ret dX4_readBehind_120 rfl
theorem e_X4_failAt_0 (v1 : Int32) (h : mx_H)  : mx_D (1, mm_X4_failAt, 0, [.ref 18, .int v1], []) h = some (some (.int 0), ((mx_u h.1 18 4 v1), h.2.1, h.2.2)) := by
  refine Eq.trans (q_aload_n dX4_failAt_0 rfl rfl) ?_
  refine Eq.trans (q_iload_n dX4_failAt_1 rfl) ?_
  refine Eq.trans (q_putf dX4_failAt_2 mx_fld_4_40 (pf_18_4 _ _)) ?_
  refine Eq.trans (q_iconst (x := 0) dX4_failAt_5 rfl) ?_
  exact Eq.trans (q_ret dX4_failAt_6 rfl) (if_pos rfl)
theorem c_X4_failAt (v1 : Int32) (h : mx_H) : mx_C mm_X4_failAt [.ref 18, .int v1] h = mx_D (1, mm_X4_failAt, 0, [.ref 18, .int v1], []) h := rfl
theorem e_X4_noTermAt_0 (v1 : Int32) (h : mx_H)  : mx_D (1, mm_X4_noTermAt, 0, [.ref 18, .int v1], []) h = some (some (.int ((-1))), ((mx_u h.1 18 4 v1), h.2.1, h.2.2)) := by
  refine Eq.trans (q_aload_n dX4_noTermAt_0 rfl rfl) ?_
  refine Eq.trans (q_iload_n dX4_noTermAt_1 rfl) ?_
  refine Eq.trans (q_putf dX4_noTermAt_2 mx_fld_4_40 (pf_18_4 _ _)) ?_
  refine Eq.trans (q_iconst (x := (-1)) dX4_noTermAt_5 rfl) ?_
  exact q_retI dX4_noTermAt_6 rfl
theorem c_X4_noTermAt (v1 : Int32) (h : mx_H) : mx_C mm_X4_noTermAt [.ref 18, .int v1] h = mx_D (1, mm_X4_noTermAt, 0, [.ref 18, .int v1], []) h := rfl
theorem e_X4_bracket_0 (v1 : Int32) (h : mx_H)  : mx_D (2, mm_X4_bracket, 0, [.ref 18, .int v1], []) h = (mx_C mm_X8_isBracket [.ref 1, .int (h.1 18 3), .int v1] h).bind (fun o => mx_D (2, mm_X4_bracket, 12, [.ref 18, .int v1], o.1.toList ++ []) o.2) := by
  refine Eq.trans (q_aload_n dX4_bracket_0 rfl rfl) ?_
  refine Eq.trans (q_getf dX4_bracket_1 mx_fld_4_21 (gf_18_0 _)) ?_
  refine Eq.trans (q_aload_n dX4_bracket_4 rfl rfl) ?_
  refine Eq.trans (q_getf dX4_bracket_5 mx_fld_4_33 (gf_18_3 _)) ?_
  refine Eq.trans (q_iload_n dX4_bracket_8 rfl) ?_
  exact q_call0 (as := [.int (h.1 18 3), .int v1]) (rest := []) dX4_bracket_9 mx_inv_4_98 rfl rfl rfl ⟨Nat.le_of_ble_eq_true rfl, Nat.le_of_ble_eq_true rfl, (Nat.le_of_ble_eq_true rfl)⟩
theorem c_X4_bracket (v1 : Int32) (h : mx_H) : mx_C mm_X4_bracket [.ref 18, .int v1] h = mx_D (2, mm_X4_bracket, 0, [.ref 18, .int v1], []) h := rfl
theorem e_X4_bracket_12 (v1 : Int32) (s0 : Int32) (h : mx_H)  : mx_D (2, mm_X4_bracket, 12, [.ref 18, .int v1], [.int s0]) h = if s0 = 0 then (mx_C mm_X4_failAt [.ref 18, .int (h.1 18 3)] h).bind (fun o => mx_D (2, mm_X4_bracket, 23, [.ref 18, .int v1], o.1.toList ++ []) o.2) else (some (some (.int 1), ((mx_u h.1 18 3 ((h.1 18 3) + 1)), h.2.1, h.2.2))) := by
  refine Eq.trans (q_if_ne 24 dX4_bracket_12 rfl) (q_ite2 ?_ ?_)
  · refine Eq.trans (q_aload_n dX4_bracket_15 rfl rfl) ?_
    refine Eq.trans (q_aload_n dX4_bracket_16 rfl rfl) ?_
    refine Eq.trans (q_getf dX4_bracket_17 mx_fld_4_33 (gf_18_3 _)) ?_
    exact q_call0 (as := [.int (h.1 18 3)]) (rest := []) dX4_bracket_20 mx_inv_4_61 rfl rfl rfl ⟨Nat.le_of_ble_eq_true rfl, Nat.le_of_ble_eq_true rfl, (Nat.le_of_ble_eq_true rfl)⟩
  · refine Eq.trans (q_aload_n dX4_bracket_24 rfl rfl) ?_
    refine Eq.trans (q_dup dX4_bracket_25 rfl) ?_
    refine Eq.trans (q_getf dX4_bracket_26 mx_fld_4_33 (gf_18_3 _)) ?_
    refine Eq.trans (q_iconst (x := 1) dX4_bracket_29 rfl) ?_
    refine Eq.trans (q_iadd dX4_bracket_30) ?_
    refine Eq.trans (q_putf dX4_bracket_31 mx_fld_4_33 (pf_18_3 _ _)) ?_
    refine Eq.trans (q_iconst (x := 1) dX4_bracket_34 rfl) ?_
    exact Eq.trans (q_ret dX4_bracket_35 rfl) (if_pos rfl)
theorem e_X4_bracket_23 (v1 : Int32) (s0 : Int32) (h : mx_H)  : mx_D (2, mm_X4_bracket, 23, [.ref 18, .int v1], [.int s0]) h = if narrow .boolean (.int s0) = .int s0 then some (some (.int s0), h) else none := by
  exact q_ret dX4_bracket_23 rfl
theorem e_X4_word_0 (v1 : Option Nat) (h : mx_H)  : mx_D (3, mm_X4_word, 0, [.ref 18, mx_rf v1], []) h = (mx_C mm_X8_wordAt [.ref 1, .int (h.1 18 3)] h).bind (fun o => mx_D (3, mm_X4_word, 11, [.ref 18, mx_rf v1], o.1.toList ++ []) o.2) := by
  refine Eq.trans (q_aload_n dX4_word_0 rfl rfl) ?_
  refine Eq.trans (q_getf dX4_word_1 mx_fld_4_21 (gf_18_0 _)) ?_
  refine Eq.trans (q_aload_n dX4_word_4 rfl rfl) ?_
  refine Eq.trans (q_getf dX4_word_5 mx_fld_4_33 (gf_18_3 _)) ?_
  exact q_call0 (as := [.int (h.1 18 3)]) (rest := []) dX4_word_8 mx_inv_4_47 rfl rfl rfl ⟨Nat.le_of_ble_eq_true rfl, Nat.le_of_ble_eq_true rfl, (Nat.le_of_ble_eq_true rfl)⟩
theorem c_X4_word (v1 : Option Nat) (h : mx_H) : mx_C mm_X4_word [.ref 18, mx_rf v1] h = mx_D (3, mm_X4_word, 0, [.ref 18, mx_rf v1], []) h := (by cases v1 <;> exact rfl)
theorem e_X4_word_11 (v1 : Option Nat) (s0 : Option Nat) (h : mx_H) (hq0 : mx_wr (mx_rf s0) = true) (hq1 : mx_wr (mx_rf v1) = true) : mx_D (3, mm_X4_word, 11, [.ref 18, mx_rf v1], [mx_rf s0]) h = if (mx_rf s0 : Value) = mx_rf v1 then some (some (.int 1), ((mx_u h.1 18 3 ((h.1 18 3) + 1)), h.2.1, h.2.2)) else ((mx_C mm_X4_failAt [.ref 18, .int (h.1 18 3)] h).bind (fun o => mx_D (3, mm_X4_word, 23, [.ref 18, mx_rf v1], o.1.toList ++ []) o.2)) := by
  refine Eq.trans (q_aload_n dX4_word_11 rfl (mx_ar_rf _)) ?_
  refine Eq.trans (q_acmp_eq 24 dX4_word_12 hq0 hq1 rfl) (q_ite2 ?_ ?_)
  · refine Eq.trans (q_aload_n dX4_word_24 rfl rfl) ?_
    refine Eq.trans (q_dup dX4_word_25 rfl) ?_
    refine Eq.trans (q_getf dX4_word_26 mx_fld_4_33 (gf_18_3 _)) ?_
    refine Eq.trans (q_iconst (x := 1) dX4_word_29 rfl) ?_
    refine Eq.trans (q_iadd dX4_word_30) ?_
    refine Eq.trans (q_putf dX4_word_31 mx_fld_4_33 (pf_18_3 _ _)) ?_
    refine Eq.trans (q_iconst (x := 1) dX4_word_34 rfl) ?_
    exact Eq.trans (q_ret dX4_word_35 rfl) (if_pos rfl)
  · refine Eq.trans (q_aload_n dX4_word_15 rfl rfl) ?_
    refine Eq.trans (q_aload_n dX4_word_16 rfl rfl) ?_
    refine Eq.trans (q_getf dX4_word_17 mx_fld_4_33 (gf_18_3 _)) ?_
    exact q_call0 (as := [.int (h.1 18 3)]) (rest := []) dX4_word_20 mx_inv_4_61 rfl rfl rfl ⟨Nat.le_of_ble_eq_true rfl, Nat.le_of_ble_eq_true rfl, (Nat.le_of_ble_eq_true rfl)⟩
theorem e_X4_word_23 (v1 : Option Nat) (s0 : Int32) (h : mx_H)  : mx_D (3, mm_X4_word, 23, [.ref 18, mx_rf v1], [.int s0]) h = if narrow .boolean (.int s0) = .int s0 then some (some (.int s0), h) else none := by
  exact q_ret dX4_word_23 rfl
theorem e_X4_readNewName_0  (h : mx_H)  : mx_D (4, mm_X4_readNewName, 0, [.ref 18], []) h = (mx_C mm_X8_nameAt [.ref 1, .int (h.1 18 3)] h).bind (fun o => mx_D (4, mm_X4_readNewName, 12, [.ref 18], o.1.toList ++ [.ref 18]) o.2) := by
  refine Eq.trans (q_aload_n dX4_readNewName_0 rfl rfl) ?_
  refine Eq.trans (q_aload_n dX4_readNewName_1 rfl rfl) ?_
  refine Eq.trans (q_getf dX4_readNewName_2 mx_fld_4_21 (gf_18_0 _)) ?_
  refine Eq.trans (q_aload_n dX4_readNewName_5 rfl rfl) ?_
  refine Eq.trans (q_getf dX4_readNewName_6 mx_fld_4_33 (gf_18_3 _)) ?_
  exact q_call0 (as := [.int (h.1 18 3)]) (rest := [.ref 18]) dX4_readNewName_9 mx_inv_4_102 rfl rfl rfl ⟨Nat.le_of_ble_eq_true rfl, Nat.le_of_ble_eq_true rfl, (Nat.le_of_ble_eq_true rfl)⟩
theorem c_X4_readNewName  (h : mx_H) : mx_C mm_X4_readNewName [.ref 18] h = mx_D (4, mm_X4_readNewName, 0, [.ref 18], []) h := rfl
theorem e_X4_readNewName_12 (s1 : Int32) (h : mx_H)  : mx_D (4, mm_X4_readNewName, 12, [.ref 18], [.int s1, .ref 18]) h = if ((mx_u h.1 18 5 s1) 18 5) = 0 then mx_D (4, mm_X4_readNewName, 37, [.ref 18], []) ((mx_u h.1 18 5 s1), h.2.1, h.2.2) else ((mx_C mm_X5_find [.ref 11, .int ((mx_u h.1 18 5 s1) 18 5)] ((mx_u h.1 18 5 s1), h.2.1, h.2.2)).bind (fun o => mx_D (4, mm_X4_readNewName, 33, [.ref 18], o.1.toList ++ []) o.2)) := by
  refine Eq.trans (q_putf dX4_readNewName_12 mx_fld_4_105 (pf_18_5 _ _)) ?_
  refine Eq.trans (q_aload_n dX4_readNewName_15 rfl rfl) ?_
  refine Eq.trans (q_getf dX4_readNewName_16 mx_fld_4_105 (gf_18_5 _)) ?_
  refine Eq.trans (q_if_eq 37 dX4_readNewName_19 rfl) (q_ite2 ?_ ?_)
  · rfl
  · refine Eq.trans (q_aload_n dX4_readNewName_22 rfl rfl) ?_
    refine Eq.trans (q_getf dX4_readNewName_23 mx_fld_4_29 (gf_18_2 _)) ?_
    refine Eq.trans (q_aload_n dX4_readNewName_26 rfl rfl) ?_
    refine Eq.trans (q_getf dX4_readNewName_27 mx_fld_4_105 (gf_18_5 _)) ?_
    exact q_call0 (as := [.int ((mx_u h.1 18 5 s1) 18 5)]) (rest := []) dX4_readNewName_30 mx_inv_4_108 rfl rfl rfl ⟨Nat.le_of_ble_eq_true rfl, Nat.le_of_ble_eq_true rfl, (Nat.le_of_ble_eq_true rfl)⟩
theorem e_X4_readNewName_33 (s0 : Int32) (h : mx_H)  : mx_D (4, mm_X4_readNewName, 33, [.ref 18], [.int s0]) h = if s0 = ((-1)) then some (some (.int 1), ((mx_u h.1 18 3 ((h.1 18 3) + 1)), h.2.1, h.2.2)) else (mx_D (4, mm_X4_readNewName, 37, [.ref 18], []) h) := by
  refine Eq.trans (q_iconst (x := (-1)) dX4_readNewName_33 rfl) ?_
  refine Eq.trans (q_icmp_eq 46 dX4_readNewName_34 rfl) (q_ite2 ?_ ?_)
  · refine Eq.trans (q_aload_n dX4_readNewName_46 rfl rfl) ?_
    refine Eq.trans (q_dup dX4_readNewName_47 rfl) ?_
    refine Eq.trans (q_getf dX4_readNewName_48 mx_fld_4_33 (gf_18_3 _)) ?_
    refine Eq.trans (q_iconst (x := 1) dX4_readNewName_51 rfl) ?_
    refine Eq.trans (q_iadd dX4_readNewName_52) ?_
    refine Eq.trans (q_putf dX4_readNewName_53 mx_fld_4_33 (pf_18_3 _ _)) ?_
    refine Eq.trans (q_iconst (x := 1) dX4_readNewName_56 rfl) ?_
    exact Eq.trans (q_ret dX4_readNewName_57 rfl) (if_pos rfl)
  · rfl
theorem e_X4_readNewName_37  (h : mx_H)  : mx_D (4, mm_X4_readNewName, 37, [.ref 18], []) h = (mx_C mm_X4_failAt [.ref 18, .int (h.1 18 3)] h).bind (fun o => mx_D (4, mm_X4_readNewName, 45, [.ref 18], o.1.toList ++ []) o.2) := by
  refine Eq.trans (q_aload_n dX4_readNewName_37 rfl rfl) ?_
  refine Eq.trans (q_aload_n dX4_readNewName_38 rfl rfl) ?_
  refine Eq.trans (q_getf dX4_readNewName_39 mx_fld_4_33 (gf_18_3 _)) ?_
  exact q_call0 (as := [.int (h.1 18 3)]) (rest := []) dX4_readNewName_42 mx_inv_4_61 rfl rfl rfl ⟨Nat.le_of_ble_eq_true rfl, Nat.le_of_ble_eq_true rfl, (Nat.le_of_ble_eq_true rfl)⟩
theorem e_X4_readNewName_45 (s0 : Int32) (h : mx_H)  : mx_D (4, mm_X4_readNewName, 45, [.ref 18], [.int s0]) h = if narrow .boolean (.int s0) = .int s0 then some (some (.int s0), h) else none := by
  exact q_ret dX4_readNewName_45 rfl
theorem e_X4_readSort_0  (h : mx_H)  : mx_D (5, mm_X4_readSort, 0, [.ref 18], []) h = (mx_C mm_X8_wordAt [.ref 1, .int (h.1 18 3)] h).bind (fun o => mx_D (5, mm_X4_readSort, 11, [.ref 18], o.1.toList ++ []) o.2) := by
  refine Eq.trans (q_aload_n dX4_readSort_0 rfl rfl) ?_
  refine Eq.trans (q_getf dX4_readSort_1 mx_fld_4_21 (gf_18_0 _)) ?_
  refine Eq.trans (q_aload_n dX4_readSort_4 rfl rfl) ?_
  refine Eq.trans (q_getf dX4_readSort_5 mx_fld_4_33 (gf_18_3 _)) ?_
  exact q_call0 (as := [.int (h.1 18 3)]) (rest := []) dX4_readSort_8 mx_inv_4_47 rfl rfl rfl ⟨Nat.le_of_ble_eq_true rfl, Nat.le_of_ble_eq_true rfl, (Nat.le_of_ble_eq_true rfl)⟩
theorem c_X4_readSort  (h : mx_H) : mx_C mm_X4_readSort [.ref 18] h = mx_D (5, mm_X4_readSort, 0, [.ref 18], []) h := rfl
theorem e_X4_readSort_11 (s0 : Option Nat) (h : mx_H) (hq0 : mx_wr (mx_rf s0) = true) : mx_D (5, mm_X4_readSort, 11, [.ref 18], [mx_rf s0]) h = if (mx_rf s0 : Value) = .ref 1000 then some (some (.int 1), ((mx_u (mx_u h.1 18 6 0) 18 3 (((mx_u h.1 18 6 0) 18 3) + 1)), h.2.1, h.2.2)) else ((mx_C mm_X4_bracket [.ref 18, .int 40] h).bind (fun o => mx_D (5, mm_X4_readSort, 40, [.ref 18], o.1.toList ++ []) o.2)) := by
  refine Eq.trans (q_gets dX4_readSort_11 mx_sta_4_113) ?_
  refine Eq.trans (q_acmp_ne 34 dX4_readSort_14 hq0 rfl rfl) (q_ite2 ?_ ?_)
  · refine Eq.trans (q_aload_n dX4_readSort_17 rfl rfl) ?_
    refine Eq.trans (q_iconst (x := 0) dX4_readSort_18 rfl) ?_
    refine Eq.trans (q_putf dX4_readSort_19 mx_fld_4_116 (pf_18_6 _ _)) ?_
    refine Eq.trans (q_aload_n dX4_readSort_22 rfl rfl) ?_
    refine Eq.trans (q_dup dX4_readSort_23 rfl) ?_
    refine Eq.trans (q_getf dX4_readSort_24 mx_fld_4_33 (gf_18_3 _)) ?_
    refine Eq.trans (q_iconst (x := 1) dX4_readSort_27 rfl) ?_
    refine Eq.trans (q_iadd dX4_readSort_28) ?_
    refine Eq.trans (q_putf dX4_readSort_29 mx_fld_4_33 (pf_18_3 _ _)) ?_
    refine Eq.trans (q_iconst (x := 1) dX4_readSort_32 rfl) ?_
    exact Eq.trans (q_ret dX4_readSort_33 rfl) (if_pos rfl)
  · refine Eq.trans (q_aload_n dX4_readSort_34 rfl rfl) ?_
    refine Eq.trans (q_bipush (x := 40) dX4_readSort_35 rfl) ?_
    exact q_call0 (as := [.int 40]) (rest := []) dX4_readSort_37 mx_inv_4_43 rfl rfl rfl ⟨Nat.le_of_ble_eq_true rfl, Nat.le_of_ble_eq_true rfl, (Nat.le_of_ble_eq_true rfl)⟩
theorem e_X4_readSort_40 (s0 : Int32) (h : mx_H)  : mx_D (5, mm_X4_readSort, 40, [.ref 18], [.int s0]) h = if s0 = 0 then some (some (.int 0), h) else ((mx_C mm_X8_wordAt [.ref 1, .int (h.1 18 3)] h).bind (fun o => mx_D (5, mm_X4_readSort, 56, [.ref 18], o.1.toList ++ []) o.2)) := by
  refine Eq.trans (q_if_ne 45 dX4_readSort_40 rfl) (q_ite2 ?_ ?_)
  · refine Eq.trans (q_iconst (x := 0) dX4_readSort_43 rfl) ?_
    exact Eq.trans (q_ret dX4_readSort_44 rfl) (if_pos rfl)
  · refine Eq.trans (q_aload_n dX4_readSort_45 rfl rfl) ?_
    refine Eq.trans (q_getf dX4_readSort_46 mx_fld_4_21 (gf_18_0 _)) ?_
    refine Eq.trans (q_aload_n dX4_readSort_49 rfl rfl) ?_
    refine Eq.trans (q_getf dX4_readSort_50 mx_fld_4_33 (gf_18_3 _)) ?_
    exact q_call0 (as := [.int (h.1 18 3)]) (rest := []) dX4_readSort_53 mx_inv_4_47 rfl rfl rfl ⟨Nat.le_of_ble_eq_true rfl, Nat.le_of_ble_eq_true rfl, (Nat.le_of_ble_eq_true rfl)⟩
theorem e_X4_readSort_56 (s0 : Option Nat) (h : mx_H) (hq0 : mx_wr (mx_rf s0) = true) : mx_D (5, mm_X4_readSort, 56, [.ref 18], [mx_rf s0]) h = if (mx_rf s0 : Value) = .ref 1002 then (mx_C mm_X4_bracket [.ref 18, .int 40] ((mx_u h.1 18 3 ((h.1 18 3) + 1)), h.2.1, h.2.2)).bind (fun o => mx_D (5, mm_X4_readSort, 84, [.ref 18], o.1.toList ++ []) o.2) else ((mx_C mm_X4_readWidth [.ref 18, .int 4] h).bind (fun o => mx_D (5, mm_X4_readSort, 67, [.ref 18], o.1.toList ++ []) o.2)) := by
  refine Eq.trans (q_gets dX4_readSort_56 mx_sta_4_119) ?_
  refine Eq.trans (q_acmp_eq 68 dX4_readSort_59 hq0 rfl rfl) (q_ite2 ?_ ?_)
  · refine Eq.trans (q_aload_n dX4_readSort_68 rfl rfl) ?_
    refine Eq.trans (q_dup dX4_readSort_69 rfl) ?_
    refine Eq.trans (q_getf dX4_readSort_70 mx_fld_4_33 (gf_18_3 _)) ?_
    refine Eq.trans (q_iconst (x := 1) dX4_readSort_73 rfl) ?_
    refine Eq.trans (q_iadd dX4_readSort_74) ?_
    refine Eq.trans (q_putf dX4_readSort_75 mx_fld_4_33 (pf_18_3 _ _)) ?_
    refine Eq.trans (q_aload_n dX4_readSort_78 rfl rfl) ?_
    refine Eq.trans (q_bipush (x := 40) dX4_readSort_79 rfl) ?_
    exact q_call0 (as := [.int 40]) (rest := []) dX4_readSort_81 mx_inv_4_43 rfl rfl rfl ⟨Nat.le_of_ble_eq_true rfl, Nat.le_of_ble_eq_true rfl, (Nat.le_of_ble_eq_true rfl)⟩
  · refine Eq.trans (q_aload_n dX4_readSort_62 rfl rfl) ?_
    refine Eq.trans (q_iconst (x := 4) dX4_readSort_63 rfl) ?_
    exact q_call0 (as := [.int 4]) (rest := []) dX4_readSort_64 mx_inv_4_122 rfl rfl rfl ⟨Nat.le_of_ble_eq_true rfl, Nat.le_of_ble_eq_true rfl, (Nat.le_of_ble_eq_true rfl)⟩
theorem e_X4_readSort_67 (s0 : Int32) (h : mx_H)  : mx_D (5, mm_X4_readSort, 67, [.ref 18], [.int s0]) h = if narrow .boolean (.int s0) = .int s0 then some (some (.int s0), h) else none := by
  exact q_ret dX4_readSort_67 rfl
theorem e_X4_readSort_84 (s0 : Int32) (h : mx_H)  : mx_D (5, mm_X4_readSort, 84, [.ref 18], [.int s0]) h = if s0 = 0 then mx_D (5, mm_X4_readSort, 112, [.ref 18], []) h else ((mx_C mm_X4_readWidth [.ref 18, .int 1] h).bind (fun o => mx_D (5, mm_X4_readSort, 92, [.ref 18], o.1.toList ++ []) o.2)) := by
  refine Eq.trans (q_if_eq 112 dX4_readSort_84 rfl) (q_ite2 ?_ ?_)
  · rfl
  · refine Eq.trans (q_aload_n dX4_readSort_87 rfl rfl) ?_
    refine Eq.trans (q_iconst (x := 1) dX4_readSort_88 rfl) ?_
    exact q_call0 (as := [.int 1]) (rest := []) dX4_readSort_89 mx_inv_4_122 rfl rfl rfl ⟨Nat.le_of_ble_eq_true rfl, Nat.le_of_ble_eq_true rfl, (Nat.le_of_ble_eq_true rfl)⟩
theorem e_X4_readSort_92 (s0 : Int32) (h : mx_H)  : mx_D (5, mm_X4_readSort, 92, [.ref 18], [.int s0]) h = if s0 = 0 then mx_D (5, mm_X4_readSort, 112, [.ref 18], []) h else ((mx_C mm_X4_bracket [.ref 18, .int 40] h).bind (fun o => mx_D (5, mm_X4_readSort, 101, [.ref 18], o.1.toList ++ []) o.2)) := by
  refine Eq.trans (q_if_eq 112 dX4_readSort_92 rfl) (q_ite2 ?_ ?_)
  · rfl
  · refine Eq.trans (q_aload_n dX4_readSort_95 rfl rfl) ?_
    refine Eq.trans (q_bipush (x := 40) dX4_readSort_96 rfl) ?_
    exact q_call0 (as := [.int 40]) (rest := []) dX4_readSort_98 mx_inv_4_43 rfl rfl rfl ⟨Nat.le_of_ble_eq_true rfl, Nat.le_of_ble_eq_true rfl, (Nat.le_of_ble_eq_true rfl)⟩
theorem e_X4_readSort_101 (s0 : Int32) (h : mx_H)  : mx_D (5, mm_X4_readSort, 101, [.ref 18], [.int s0]) h = if s0 = 0 then mx_D (5, mm_X4_readSort, 112, [.ref 18], []) h else ((mx_C mm_X4_readWidth [.ref 18, .int 4] h).bind (fun o => mx_D (5, mm_X4_readSort, 109, [.ref 18], o.1.toList ++ []) o.2)) := by
  refine Eq.trans (q_if_eq 112 dX4_readSort_101 rfl) (q_ite2 ?_ ?_)
  · rfl
  · refine Eq.trans (q_aload_n dX4_readSort_104 rfl rfl) ?_
    refine Eq.trans (q_iconst (x := 4) dX4_readSort_105 rfl) ?_
    exact q_call0 (as := [.int 4]) (rest := []) dX4_readSort_106 mx_inv_4_122 rfl rfl rfl ⟨Nat.le_of_ble_eq_true rfl, Nat.le_of_ble_eq_true rfl, (Nat.le_of_ble_eq_true rfl)⟩
theorem e_X4_readSort_109 (s0 : Int32) (h : mx_H)  : mx_D (5, mm_X4_readSort, 109, [.ref 18], [.int s0]) h = if s0 = 0 then mx_D (5, mm_X4_readSort, 112, [.ref 18], []) h else ((mx_C mm_X4_bracket [.ref 18, .int 41] ((mx_u h.1 18 6 ((h.1 18 6) + 4)), h.2.1, h.2.2)).bind (fun o => mx_D (5, mm_X4_readSort, 130, [.ref 18], o.1.toList ++ []) o.2)) := by
  refine Eq.trans (q_if_ne 114 dX4_readSort_109 rfl) (q_ite2 ?_ ?_)
  · rfl
  · refine Eq.trans (q_aload_n dX4_readSort_114 rfl rfl) ?_
    refine Eq.trans (q_dup dX4_readSort_115 rfl) ?_
    refine Eq.trans (q_getf dX4_readSort_116 mx_fld_4_116 (gf_18_6 _)) ?_
    refine Eq.trans (q_iconst (x := 4) dX4_readSort_119 rfl) ?_
    refine Eq.trans (q_iadd dX4_readSort_120) ?_
    refine Eq.trans (q_putf dX4_readSort_121 mx_fld_4_116 (pf_18_6 _ _)) ?_
    refine Eq.trans (q_aload_n dX4_readSort_124 rfl rfl) ?_
    refine Eq.trans (q_bipush (x := 41) dX4_readSort_125 rfl) ?_
    exact q_call0 (as := [.int 41]) (rest := []) dX4_readSort_127 mx_inv_4_43 rfl rfl rfl ⟨Nat.le_of_ble_eq_true rfl, Nat.le_of_ble_eq_true rfl, (Nat.le_of_ble_eq_true rfl)⟩
theorem e_X4_readSort_112  (h : mx_H)  : mx_D (5, mm_X4_readSort, 112, [.ref 18], []) h = some (some (.int 0), h) := by
  refine Eq.trans (q_iconst (x := 0) dX4_readSort_112 rfl) ?_
  exact Eq.trans (q_ret dX4_readSort_113 rfl) (if_pos rfl)
theorem e_X4_readSort_130 (s0 : Int32) (h : mx_H)  : mx_D (5, mm_X4_readSort, 130, [.ref 18], [.int s0]) h = if narrow .boolean (.int s0) = .int s0 then some (some (.int s0), h) else none := by
  exact q_ret dX4_readSort_130 rfl
theorem e_X4_readWidth_0 (v1 : Int32) (h : mx_H)  : mx_D (4, mm_X4_readWidth, 0, [.ref 18, .int v1], []) h = (mx_C mm_X4_word [.ref 18, .ref 1003] h).bind (fun o => mx_D (4, mm_X4_readWidth, 7, [.ref 18, .int v1], o.1.toList ++ []) o.2) := by
  refine Eq.trans (q_aload_n dX4_readWidth_0 rfl rfl) ?_
  refine Eq.trans (q_gets dX4_readWidth_1 mx_sta_4_125) ?_
  exact q_call0 (as := [.ref 1003]) (rest := []) dX4_readWidth_4 mx_inv_4_128 rfl rfl rfl ⟨Nat.le_of_ble_eq_true rfl, Nat.le_of_ble_eq_true rfl, (Nat.le_of_ble_eq_true rfl)⟩
theorem c_X4_readWidth (v1 : Int32) (h : mx_H) : mx_C mm_X4_readWidth [.ref 18, .int v1] h = mx_D (4, mm_X4_readWidth, 0, [.ref 18, .int v1], []) h := rfl
theorem e_X4_readWidth_7 (v1 : Int32) (s0 : Int32) (h : mx_H)  : mx_D (4, mm_X4_readWidth, 7, [.ref 18, .int v1], [.int s0]) h = if s0 = 0 then mx_D (4, mm_X4_readWidth, 20, [.ref 18, .int v1], []) h else ((mx_C mm_X4_word [.ref 18, .ref 1001] h).bind (fun o => mx_D (4, mm_X4_readWidth, 17, [.ref 18, .int v1], o.1.toList ++ []) o.2)) := by
  refine Eq.trans (q_if_eq 20 dX4_readWidth_7 rfl) (q_ite2 ?_ ?_)
  · rfl
  · refine Eq.trans (q_aload_n dX4_readWidth_10 rfl rfl) ?_
    refine Eq.trans (q_gets dX4_readWidth_11 mx_sta_4_131) ?_
    exact q_call0 (as := [.ref 1001]) (rest := []) dX4_readWidth_14 mx_inv_4_128 rfl rfl rfl ⟨Nat.le_of_ble_eq_true rfl, Nat.le_of_ble_eq_true rfl, (Nat.le_of_ble_eq_true rfl)⟩
theorem e_X4_readWidth_17 (v1 : Int32) (s0 : Int32) (h : mx_H)  : mx_D (4, mm_X4_readWidth, 17, [.ref 18, .int v1], [.int s0]) h = if s0 = 0 then mx_D (4, mm_X4_readWidth, 20, [.ref 18, .int v1], []) h else ((mx_C mm_X8_numberAt [.ref 1, .int (h.1 18 3)] h).bind (fun o => mx_D (4, mm_X4_readWidth, 34, [.ref 18, .int v1], o.1.toList ++ [.ref 18]) o.2)) := by
  refine Eq.trans (q_if_ne 22 dX4_readWidth_17 rfl) (q_ite2 ?_ ?_)
  · rfl
  · refine Eq.trans (q_aload_n dX4_readWidth_22 rfl rfl) ?_
    refine Eq.trans (q_aload_n dX4_readWidth_23 rfl rfl) ?_
    refine Eq.trans (q_getf dX4_readWidth_24 mx_fld_4_21 (gf_18_0 _)) ?_
    refine Eq.trans (q_aload_n dX4_readWidth_27 rfl rfl) ?_
    refine Eq.trans (q_getf dX4_readWidth_28 mx_fld_4_33 (gf_18_3 _)) ?_
    exact q_call0 (as := [.int (h.1 18 3)]) (rest := [.ref 18]) dX4_readWidth_31 mx_inv_4_134 rfl rfl rfl ⟨Nat.le_of_ble_eq_true rfl, Nat.le_of_ble_eq_true rfl, (Nat.le_of_ble_eq_true rfl)⟩
theorem e_X4_readWidth_20 (v1 : Int32) (h : mx_H)  : mx_D (4, mm_X4_readWidth, 20, [.ref 18, .int v1], []) h = some (some (.int 0), h) := by
  refine Eq.trans (q_iconst (x := 0) dX4_readWidth_20 rfl) ?_
  exact Eq.trans (q_ret dX4_readWidth_21 rfl) (if_pos rfl)
theorem e_X4_readWidth_34 (v1 : Int32) (s1 : Int32) (h : mx_H)  : mx_D (4, mm_X4_readWidth, 34, [.ref 18, .int v1], [.int s1, .ref 18]) h = if ((mx_u h.1 18 6 s1) 18 6) < 1 then mx_D (4, mm_X4_readWidth, 53, [.ref 18, .int v1], []) ((mx_u h.1 18 6 s1), h.2.1, h.2.2) else (if ((mx_u h.1 18 6 s1) 18 6) ≤ v1 then (mx_C mm_X4_bracket [.ref 18, .int 41] ((mx_u (mx_u h.1 18 6 s1) 18 3 (((mx_u h.1 18 6 s1) 18 3) + 1)), h.2.1, h.2.2)).bind (fun o => mx_D (4, mm_X4_readWidth, 78, [.ref 18, .int v1], o.1.toList ++ []) o.2) else (mx_D (4, mm_X4_readWidth, 53, [.ref 18, .int v1], []) ((mx_u h.1 18 6 s1), h.2.1, h.2.2))) := by
  refine Eq.trans (q_putf dX4_readWidth_34 mx_fld_4_116 (pf_18_6 _ _)) ?_
  refine Eq.trans (q_aload_n dX4_readWidth_37 rfl rfl) ?_
  refine Eq.trans (q_getf dX4_readWidth_38 mx_fld_4_116 (gf_18_6 _)) ?_
  refine Eq.trans (q_iconst (x := 1) dX4_readWidth_41 rfl) ?_
  refine Eq.trans (q_icmp_lt 53 dX4_readWidth_42 rfl) (q_ite2 ?_ ?_)
  · rfl
  · refine Eq.trans (q_aload_n dX4_readWidth_45 rfl rfl) ?_
    refine Eq.trans (q_getf dX4_readWidth_46 mx_fld_4_116 (gf_18_6 _)) ?_
    refine Eq.trans (q_iload_n dX4_readWidth_49 rfl) ?_
    refine Eq.trans (q_icmp_le 62 dX4_readWidth_50 rfl) (q_ite2 ?_ ?_)
    · refine Eq.trans (q_aload_n dX4_readWidth_62 rfl rfl) ?_
      refine Eq.trans (q_dup dX4_readWidth_63 rfl) ?_
      refine Eq.trans (q_getf dX4_readWidth_64 mx_fld_4_33 (gf_18_3 _)) ?_
      refine Eq.trans (q_iconst (x := 1) dX4_readWidth_67 rfl) ?_
      refine Eq.trans (q_iadd dX4_readWidth_68) ?_
      refine Eq.trans (q_putf dX4_readWidth_69 mx_fld_4_33 (pf_18_3 _ _)) ?_
      refine Eq.trans (q_aload_n dX4_readWidth_72 rfl rfl) ?_
      refine Eq.trans (q_bipush (x := 41) dX4_readWidth_73 rfl) ?_
      exact q_call0 (as := [.int 41]) (rest := []) dX4_readWidth_75 mx_inv_4_43 rfl rfl rfl ⟨Nat.le_of_ble_eq_true rfl, Nat.le_of_ble_eq_true rfl, (Nat.le_of_ble_eq_true rfl)⟩
    · rfl
theorem e_X4_readWidth_53 (v1 : Int32) (h : mx_H)  : mx_D (4, mm_X4_readWidth, 53, [.ref 18, .int v1], []) h = (mx_C mm_X4_failAt [.ref 18, .int (h.1 18 3)] h).bind (fun o => mx_D (4, mm_X4_readWidth, 61, [.ref 18, .int v1], o.1.toList ++ []) o.2) := by
  refine Eq.trans (q_aload_n dX4_readWidth_53 rfl rfl) ?_
  refine Eq.trans (q_aload_n dX4_readWidth_54 rfl rfl) ?_
  refine Eq.trans (q_getf dX4_readWidth_55 mx_fld_4_33 (gf_18_3 _)) ?_
  exact q_call0 (as := [.int (h.1 18 3)]) (rest := []) dX4_readWidth_58 mx_inv_4_61 rfl rfl rfl ⟨Nat.le_of_ble_eq_true rfl, Nat.le_of_ble_eq_true rfl, (Nat.le_of_ble_eq_true rfl)⟩
theorem e_X4_readWidth_61 (v1 : Int32) (s0 : Int32) (h : mx_H)  : mx_D (4, mm_X4_readWidth, 61, [.ref 18, .int v1], [.int s0]) h = if narrow .boolean (.int s0) = .int s0 then some (some (.int s0), h) else none := by
  exact q_ret dX4_readWidth_61 rfl
theorem e_X4_readWidth_78 (v1 : Int32) (s0 : Int32) (h : mx_H)  : mx_D (4, mm_X4_readWidth, 78, [.ref 18, .int v1], [.int s0]) h = if narrow .boolean (.int s0) = .int s0 then some (some (.int s0), h) else none := by
  exact q_ret dX4_readWidth_78 rfl
theorem e_X4_readTerm_0 (rk : Nat) (v1 : Int32) (h : mx_H) (hr0 : mx_rank mm_X8_isBracket [.ref 1, .int (h.1 18 3), .int 40] < rk) (hr1 : mx_rank mm_X4_noTermAt [.ref 18, .int (h.1 18 3)] < rk) : mx_D (rk, mm_X4_readTerm, 0, [.ref 18, .int v1, mx_junk], []) h = if v1 ≤ 8 then (mx_C mm_X8_isBracket [.ref 1, .int (h.1 18 3), .int 40] h).bind (fun o => mx_D (rk, mm_X4_readTerm, 28, [.ref 18, .int v1, mx_junk], o.1.toList ++ []) o.2) else ((mx_C mm_X4_noTermAt [.ref 18, .int (h.1 18 3)] h).bind (fun o => mx_D (rk, mm_X4_readTerm, 14, [.ref 18, .int v1, mx_junk], o.1.toList ++ []) o.2)) := by
  refine Eq.trans (q_iload_n dX4_readTerm_0 rfl) ?_
  refine Eq.trans (q_bipush (x := 8) dX4_readTerm_1 rfl) ?_
  refine Eq.trans (q_icmp_le 15 dX4_readTerm_3 rfl) (q_ite2 ?_ ?_)
  · refine Eq.trans (q_aload_n dX4_readTerm_15 rfl rfl) ?_
    refine Eq.trans (q_getf dX4_readTerm_16 mx_fld_4_21 (gf_18_0 _)) ?_
    refine Eq.trans (q_aload_n dX4_readTerm_19 rfl rfl) ?_
    refine Eq.trans (q_getf dX4_readTerm_20 mx_fld_4_33 (gf_18_3 _)) ?_
    refine Eq.trans (q_bipush (x := 40) dX4_readTerm_23 rfl) ?_
    exact q_call0 (as := [.int (h.1 18 3), .int 40]) (rest := []) dX4_readTerm_25 mx_inv_4_98 rfl rfl rfl ⟨Nat.le_of_ble_eq_true rfl, Nat.le_of_ble_eq_true rfl, hr0⟩
  · refine Eq.trans (q_aload_n dX4_readTerm_6 rfl rfl) ?_
    refine Eq.trans (q_aload_n dX4_readTerm_7 rfl rfl) ?_
    refine Eq.trans (q_getf dX4_readTerm_8 mx_fld_4_33 (gf_18_3 _)) ?_
    exact q_call0 (as := [.int (h.1 18 3)]) (rest := []) dX4_readTerm_11 mx_inv_4_137 rfl rfl rfl ⟨Nat.le_of_ble_eq_true rfl, Nat.le_of_ble_eq_true rfl, hr1⟩
theorem c_X4_readTerm (v1 : Int32) (h : mx_H) : mx_C mm_X4_readTerm [.ref 18, .int v1] h = mx_D ((mx_rank mm_X4_readTerm [.ref 18, .int v1]), mm_X4_readTerm, 0, [.ref 18, .int v1, mx_junk], []) h := rfl
theorem e_X4_readTerm_14 (rk : Nat) (v1 : Int32) (s0 : Int32) (h : mx_H)  : mx_D (rk, mm_X4_readTerm, 14, [.ref 18, .int v1, mx_junk], [.int s0]) h = some (some (.int s0), h) := by
  exact q_retI dX4_readTerm_14 rfl
theorem e_X4_readTerm_28 (rk : Nat) (v1 : Int32) (s0 : Int32) (h : mx_H) (hr0 : mx_rank mm_X8_isBracket [.ref 1, .int ((mx_u h.1 18 3 ((h.1 18 3) + 1)) 18 3), .int 40] < rk) (hr1 : mx_rank mm_X4_readAtom [.ref 18] < rk) : mx_D (rk, mm_X4_readTerm, 28, [.ref 18, .int v1, mx_junk], [.int s0]) h = if s0 = 0 then (mx_C mm_X4_readAtom [.ref 18] h).bind (fun o => mx_D (rk, mm_X4_readTerm, 35, [.ref 18, .int v1, mx_junk], o.1.toList ++ []) o.2) else ((mx_C mm_X8_isBracket [.ref 1, .int ((mx_u h.1 18 3 ((h.1 18 3) + 1)) 18 3), .int 40] ((mx_u h.1 18 3 ((h.1 18 3) + 1)), h.2.1, h.2.2)).bind (fun o => mx_D (rk, mm_X4_readTerm, 59, [.ref 18, .int v1, mx_junk], o.1.toList ++ []) o.2)) := by
  refine Eq.trans (q_if_ne 36 dX4_readTerm_28 rfl) (q_ite2 ?_ ?_)
  · refine Eq.trans (q_aload_n dX4_readTerm_31 rfl rfl) ?_
    exact q_call0 (as := []) (rest := []) dX4_readTerm_32 mx_inv_4_140 rfl rfl rfl ⟨Nat.le_of_ble_eq_true rfl, Nat.le_of_ble_eq_true rfl, hr1⟩
  · refine Eq.trans (q_aload_n dX4_readTerm_36 rfl rfl) ?_
    refine Eq.trans (q_dup dX4_readTerm_37 rfl) ?_
    refine Eq.trans (q_getf dX4_readTerm_38 mx_fld_4_33 (gf_18_3 _)) ?_
    refine Eq.trans (q_iconst (x := 1) dX4_readTerm_41 rfl) ?_
    refine Eq.trans (q_iadd dX4_readTerm_42) ?_
    refine Eq.trans (q_putf dX4_readTerm_43 mx_fld_4_33 (pf_18_3 _ _)) ?_
    refine Eq.trans (q_aload_n dX4_readTerm_46 rfl rfl) ?_
    refine Eq.trans (q_getf dX4_readTerm_47 mx_fld_4_21 (gf_18_0 _)) ?_
    refine Eq.trans (q_aload_n dX4_readTerm_50 rfl rfl) ?_
    refine Eq.trans (q_getf dX4_readTerm_51 mx_fld_4_33 (gf_18_3 _)) ?_
    refine Eq.trans (q_bipush (x := 40) dX4_readTerm_54 rfl) ?_
    exact q_call0 (as := [.int ((mx_u h.1 18 3 ((h.1 18 3) + 1)) 18 3), .int 40]) (rest := []) dX4_readTerm_56 mx_inv_4_98 rfl rfl rfl ⟨Nat.le_of_ble_eq_true rfl, Nat.le_of_ble_eq_true rfl, hr0⟩
theorem e_X4_readTerm_35 (rk : Nat) (v1 : Int32) (s0 : Int32) (h : mx_H)  : mx_D (rk, mm_X4_readTerm, 35, [.ref 18, .int v1, mx_junk], [.int s0]) h = some (some (.int s0), h) := by
  exact q_retI dX4_readTerm_35 rfl
theorem e_X4_readTerm_59 (rk : Nat) (v1 : Int32) (s0 : Int32) (h : mx_H) (hr0 : mx_rank mm_X8_wordAt [.ref 1, .int (h.1 18 3)] < rk) (hr1 : mx_rank mm_X4_readNumbered [.ref 18, .int v1] < rk) : mx_D (rk, mm_X4_readTerm, 59, [.ref 18, .int v1, mx_junk], [.int s0]) h = if s0 = 0 then (mx_C mm_X8_wordAt [.ref 1, .int (h.1 18 3)] h).bind (fun o => mx_D (rk, mm_X4_readTerm, 79, [.ref 18, .int v1, mx_junk], o.1.toList ++ []) o.2) else ((mx_C mm_X4_readNumbered [.ref 18, .int v1] h).bind (fun o => mx_D (rk, mm_X4_readTerm, 67, [.ref 18, .int v1, mx_junk], o.1.toList ++ []) o.2)) := by
  refine Eq.trans (q_if_eq 68 dX4_readTerm_59 rfl) (q_ite2 ?_ ?_)
  · refine Eq.trans (q_aload_n dX4_readTerm_68 rfl rfl) ?_
    refine Eq.trans (q_getf dX4_readTerm_69 mx_fld_4_21 (gf_18_0 _)) ?_
    refine Eq.trans (q_aload_n dX4_readTerm_72 rfl rfl) ?_
    refine Eq.trans (q_getf dX4_readTerm_73 mx_fld_4_33 (gf_18_3 _)) ?_
    exact q_call0 (as := [.int (h.1 18 3)]) (rest := []) dX4_readTerm_76 mx_inv_4_47 rfl rfl rfl ⟨Nat.le_of_ble_eq_true rfl, Nat.le_of_ble_eq_true rfl, hr0⟩
  · refine Eq.trans (q_aload_n dX4_readTerm_62 rfl rfl) ?_
    refine Eq.trans (q_iload_n dX4_readTerm_63 rfl) ?_
    exact q_call0 (as := [.int v1]) (rest := []) dX4_readTerm_64 mx_inv_4_144 rfl rfl rfl ⟨Nat.le_of_ble_eq_true rfl, Nat.le_of_ble_eq_true rfl, hr1⟩
theorem e_X4_readTerm_67 (rk : Nat) (v1 : Int32) (s0 : Int32) (h : mx_H)  : mx_D (rk, mm_X4_readTerm, 67, [.ref 18, .int v1, mx_junk], [.int s0]) h = some (some (.int s0), h) := by
  exact q_retI dX4_readTerm_67 rfl
theorem e_X4_readTerm_79 (rk : Nat) (v1 : Int32) (s0 : Nat) (hw_s0 : 1000 ≤ s0 ∧ s0 < 1042) (h : mx_H) (hr0 : mx_rank mm_X9_takesNumbers [.ref s0] < rk) (hr1 : mx_rank mm_X4_readLet [.ref 18, .int v1] < rk) : mx_D (rk, mm_X4_readTerm, 79, [.ref 18, .int v1, mx_junk], [.ref s0]) h = if (.ref s0 : Value) = .ref 1010 then (mx_C mm_X4_readLet [.ref 18, .int v1] h).bind (fun o => mx_D (rk, mm_X4_readTerm, 92, [.ref 18, .int v1, .ref s0], o.1.toList ++ []) o.2) else (if (.ref s0 : Value) = .null then mx_D (rk, mm_X4_readTerm, 111, [.ref 18, .int v1, .ref s0], []) h else (if ((mx_wsh.getD (s0 - 1000) (0, 0)).2) = 0 then mx_D (rk, mm_X4_readTerm, 111, [.ref 18, .int v1, .ref s0], []) h else ((mx_C mm_X9_takesNumbers [.ref s0] h).bind (fun o => mx_D (rk, mm_X4_readTerm, 108, [.ref 18, .int v1, .ref s0], o.1.toList ++ []) o.2)))) := by
  refine Eq.trans (q_astore_n (L' := [.ref 18, .int v1, .ref s0]) dX4_readTerm_79 rfl (Nat.le_of_ble_eq_true rfl) rfl) ?_
  refine Eq.trans (q_aload_n dX4_readTerm_80 rfl rfl) ?_
  refine Eq.trans (q_gets dX4_readTerm_81 mx_sta_4_147) ?_
  refine Eq.trans (q_acmp_ne 93 dX4_readTerm_84 (decide_eq_true hw_s0) rfl rfl) (q_ite2 ?_ ?_)
  · refine Eq.trans (q_aload_n dX4_readTerm_87 rfl rfl) ?_
    refine Eq.trans (q_iload_n dX4_readTerm_88 rfl) ?_
    exact q_call0 (as := [.int v1]) (rest := []) dX4_readTerm_89 mx_inv_4_150 rfl rfl rfl ⟨Nat.le_of_ble_eq_true rfl, Nat.le_of_ble_eq_true rfl, hr1⟩
  · refine Eq.trans (q_aload_n dX4_readTerm_93 rfl rfl) ?_
    refine Eq.trans (q_ifnull 111 dX4_readTerm_94 rfl rfl) (q_ite2 ?_ ?_)
    · rfl
    · refine Eq.trans (q_aload_n dX4_readTerm_97 rfl rfl) ?_
      refine Eq.trans (q_getw dX4_readTerm_98 mx_fld_4_153 hw_s0 rfl) ?_
      refine Eq.trans (q_if_eq 111 dX4_readTerm_101 rfl) (q_ite2 ?_ ?_)
      · rfl
      · refine Eq.trans (q_aload_n dX4_readTerm_104 rfl rfl) ?_
        exact q_callW (as := []) (rest := []) dX4_readTerm_105 mx_inv_4_155 hw_s0 rfl rfl ⟨Nat.le_of_ble_eq_true rfl, Nat.le_of_ble_eq_true rfl, hr0⟩
