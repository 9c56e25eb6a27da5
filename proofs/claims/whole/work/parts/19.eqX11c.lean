theorem e_X11_readWidth_59 (v1 : Int32) (v2 : Int32) (s0 : Int32) (h : mx_H)  : mx_D (7, mm_X11_readWidth, 59, [.ref 47, .int v1, .int v2], [.int s0]) h = if s0 = 0 then mx_D (7, mm_X11_readWidth, 66, [.ref 47, .int v1, .int v2], []) h else (mx_D (7, mm_X11_readWidth, 67, [.ref 47, .int v1, .int v2], [.int v2]) h) := by
  refine Eq.trans (q_if_eq 66 dX11_readWidth_59 rfl) (q_ite2 ?_ ?_)
  · rfl
  · refine Eq.trans (q_iload_n dX11_readWidth_62 rfl) ?_
    refine Eq.trans (q_goto 67 dX11_readWidth_63 rfl) ?_
    rfl
theorem e_X11_readWidth_66 (v1 : Int32) (v2 : Int32) (h : mx_H)  : mx_D (7, mm_X11_readWidth, 66, [.ref 47, .int v1, .int v2], []) h = mx_D (7, mm_X11_readWidth, 67, [.ref 47, .int v1, .int v2], [.int ((-1))]) h := by
  refine Eq.trans (q_iconst (x := (-1)) dX11_readWidth_66 rfl) ?_
  rfl
theorem e_X11_readWidth_67 (v1 : Int32) (v2 : Int32) (s0 : Int32) (h : mx_H)  : mx_D (7, mm_X11_readWidth, 67, [.ref 47, .int v1, .int v2], [.int s0]) h = some (some (.int s0), h) := by
  exact q_retI dX11_readWidth_67 rfl
theorem e_X11_readSort_0  (h : mx_H)  : mx_D (8, mm_X11_readSort, 0, [.ref 47, mx_junk], []) h = if (h.1 47 2) = 3 then (mx_C mm_X11_word [.ref 47, .long 1819242306, .long 0] h).bind (fun o => mx_D (8, mm_X11_readSort, 16, [.ref 47, mx_junk], o.1.toList ++ []) o.2) else (if (h.1 47 2) = 1 then mx_D (8, mm_X11_readSort, 39, [.ref 47, mx_junk], [.int 1, .ref 47]) h else (mx_D (8, mm_X11_readSort, 39, [.ref 47, mx_junk], [.int 0, .ref 47]) h)) := by
  refine Eq.trans (q_aload_n dX11_readSort_0 rfl rfl) ?_
  refine Eq.trans (q_getf dX11_readSort_1 mx_fld_11_115 (gf_47_2 _)) ?_
  refine Eq.trans (q_iconst (x := 3) dX11_readSort_4 rfl) ?_
  refine Eq.trans (q_icmp_ne 25 dX11_readSort_5 rfl) (q_ite2 ?_ ?_)
  · refine Eq.trans (q_aload_n dX11_readSort_8 rfl rfl) ?_
    refine Eq.trans (q_ldc2 dX11_readSort_9 mx_ldc2_11_193) ?_
    refine Eq.trans (q_lconst (x := 0) dX11_readSort_12 rfl) ?_
    exact q_call0 (as := [.long 1819242306, .long 0]) (rest := []) dX11_readSort_13 mx_inv_11_203 rfl rfl rfl ⟨Nat.le_of_ble_eq_true rfl, Nat.le_of_ble_eq_true rfl, (Nat.le_of_ble_eq_true rfl)⟩
  · refine Eq.trans (q_aload_n dX11_readSort_25 rfl rfl) ?_
    refine Eq.trans (q_aload_n dX11_readSort_26 rfl rfl) ?_
    refine Eq.trans (q_getf dX11_readSort_27 mx_fld_11_115 (gf_47_2 _)) ?_
    refine Eq.trans (q_iconst (x := 1) dX11_readSort_30 rfl) ?_
    refine Eq.trans (q_icmp_ne 38 dX11_readSort_31 rfl) (q_ite2 ?_ ?_)
    · refine Eq.trans (q_iconst (x := 1) dX11_readSort_34 rfl) ?_
      refine Eq.trans (q_goto 39 dX11_readSort_35 rfl) ?_
      rfl
    · refine Eq.trans (q_iconst (x := 0) dX11_readSort_38 rfl) ?_
      rfl
theorem c_X11_readSort  (h : mx_H) : mx_C mm_X11_readSort [.ref 47] h = mx_D (8, mm_X11_readSort, 0, [.ref 47, mx_junk], []) h := rfl
theorem e_X11_readSort_16 (s0 : Int32) (h : mx_H)  : mx_D (8, mm_X11_readSort, 16, [.ref 47, mx_junk], [.int s0]) h = if s0 = 0 then mx_D (8, mm_X11_readSort, 24, [.ref 47, mx_junk], [.int ((-1))]) h else (mx_D (8, mm_X11_readSort, 24, [.ref 47, mx_junk], [.int 0]) h) := by
  refine Eq.trans (q_if_eq 23 dX11_readSort_16 rfl) (q_ite2 ?_ ?_)
  · refine Eq.trans (q_iconst (x := (-1)) dX11_readSort_23 rfl) ?_
    rfl
  · refine Eq.trans (q_iconst (x := 0) dX11_readSort_19 rfl) ?_
    refine Eq.trans (q_goto 24 dX11_readSort_20 rfl) ?_
    rfl
theorem e_X11_readSort_24 (s0 : Int32) (h : mx_H)  : mx_D (8, mm_X11_readSort, 24, [.ref 47, mx_junk], [.int s0]) h = some (some (.int s0), h) := by
  exact q_retI dX11_readSort_24 rfl
theorem e_X11_readSort_39 (s1 : Int32) (h : mx_H)  : mx_D (8, mm_X11_readSort, 39, [.ref 47, mx_junk], [.int s1, .ref 47]) h = (mx_C mm_X11_pass [.ref 47, .int s1] h).bind (fun o => mx_D (8, mm_X11_readSort, 42, [.ref 47, mx_junk], o.1.toList ++ []) o.2) := by
  exact q_call0 (as := [.int s1]) (rest := []) dX11_readSort_39 mx_inv_11_127 rfl rfl rfl ⟨Nat.le_of_ble_eq_true rfl, Nat.le_of_ble_eq_true rfl, (Nat.le_of_ble_eq_true rfl)⟩
theorem e_X11_readSort_42 (s0 : Int32) (h : mx_H)  : mx_D (8, mm_X11_readSort, 42, [.ref 47, mx_junk], [.int s0]) h = if s0 = 0 then some (some (.int ((-1))), h) else (if (h.1 47 2) = 3 then if (lg_cmp (h.2.1 47 5) 521325933121) = 0 then if (lg_cmp (h.2.1 47 6) 0) = 0 then (mx_C mm_X11_next [.ref 47] h).bind (fun o => mx_D (8, mm_X11_readSort, 85, [.ref 47, mx_junk], o.1.toList ++ []) o.2) else (mx_D (8, mm_X11_readSort, 75, [.ref 47, mx_junk], []) h) else (mx_D (8, mm_X11_readSort, 75, [.ref 47, mx_junk], []) h) else (mx_D (8, mm_X11_readSort, 75, [.ref 47, mx_junk], []) h)) := by
  refine Eq.trans (q_if_ne 47 dX11_readSort_42 rfl) (q_ite2 ?_ ?_)
  · refine Eq.trans (q_iconst (x := (-1)) dX11_readSort_45 rfl) ?_
    exact q_retI dX11_readSort_46 rfl
  · refine Eq.trans (q_aload_n dX11_readSort_47 rfl rfl) ?_
    refine Eq.trans (q_getf dX11_readSort_48 mx_fld_11_115 (gf_47_2 _)) ?_
    refine Eq.trans (q_iconst (x := 3) dX11_readSort_51 rfl) ?_
    refine Eq.trans (q_icmp_ne 75 dX11_readSort_52 rfl) (q_ite2 ?_ ?_)
    · refine Eq.trans (q_aload_n dX11_readSort_55 rfl rfl) ?_
      refine Eq.trans (q_getf dX11_readSort_56 mx_fld_11_105 (gf_47_5 _)) ?_
      refine Eq.trans (q_ldc2 dX11_readSort_59 mx_ldc2_11_213) ?_
      refine Eq.trans (q_lcmp dX11_readSort_62) ?_
      refine Eq.trans (q_if_ne 75 dX11_readSort_63 rfl) (q_ite2 ?_ ?_)
      · refine Eq.trans (q_aload_n dX11_readSort_66 rfl rfl) ?_
        refine Eq.trans (q_getf dX11_readSort_67 mx_fld_11_109 (gf_47_6 _)) ?_
        refine Eq.trans (q_lconst (x := 0) dX11_readSort_70 rfl) ?_
        refine Eq.trans (q_lcmp dX11_readSort_71) ?_
        refine Eq.trans (q_if_eq 81 dX11_readSort_72 rfl) (q_ite2 ?_ ?_)
        · refine Eq.trans (q_aload_n dX11_readSort_81 rfl rfl) ?_
          exact q_call0 (as := []) (rest := []) dX11_readSort_82 mx_inv_11_124 rfl rfl rfl ⟨Nat.le_of_ble_eq_true rfl, Nat.le_of_ble_eq_true rfl, (Nat.le_of_ble_eq_true rfl)⟩
        · rfl
      · rfl
    · rfl
theorem e_X11_readSort_75  (h : mx_H)  : mx_D (8, mm_X11_readSort, 75, [.ref 47, mx_junk], []) h = (mx_C mm_X11_readWidth [.ref 47, .int 4] h).bind (fun o => mx_D (8, mm_X11_readSort, 80, [.ref 47, mx_junk], o.1.toList ++ []) o.2) := by
  refine Eq.trans (q_aload_n dX11_readSort_75 rfl rfl) ?_
  refine Eq.trans (q_iconst (x := 4) dX11_readSort_76 rfl) ?_
  exact q_call0 (as := [.int 4]) (rest := []) dX11_readSort_77 mx_inv_11_215 rfl rfl rfl ⟨Nat.le_of_ble_eq_true rfl, Nat.le_of_ble_eq_true rfl, (Nat.le_of_ble_eq_true rfl)⟩
theorem e_X11_readSort_80 (s0 : Int32) (h : mx_H)  : mx_D (8, mm_X11_readSort, 80, [.ref 47, mx_junk], [.int s0]) h = some (some (.int s0), h) := by
  exact q_retI dX11_readSort_80 rfl
theorem e_X11_readSort_85  (h : mx_H)  : mx_D (8, mm_X11_readSort, 85, [.ref 47, mx_junk], []) h = if (h.1 47 2) = 1 then mx_D (8, mm_X11_readSort, 99, [.ref 47, mx_junk], [.int 1, .ref 47]) h else (mx_D (8, mm_X11_readSort, 99, [.ref 47, mx_junk], [.int 0, .ref 47]) h) := by
  refine Eq.trans (q_aload_n dX11_readSort_85 rfl rfl) ?_
  refine Eq.trans (q_aload_n dX11_readSort_86 rfl rfl) ?_
  refine Eq.trans (q_getf dX11_readSort_87 mx_fld_11_115 (gf_47_2 _)) ?_
  refine Eq.trans (q_iconst (x := 1) dX11_readSort_90 rfl) ?_
  refine Eq.trans (q_icmp_ne 98 dX11_readSort_91 rfl) (q_ite2 ?_ ?_)
  · refine Eq.trans (q_iconst (x := 1) dX11_readSort_94 rfl) ?_
    refine Eq.trans (q_goto 99 dX11_readSort_95 rfl) ?_
    rfl
  · refine Eq.trans (q_iconst (x := 0) dX11_readSort_98 rfl) ?_
    rfl
theorem e_X11_readSort_99 (s1 : Int32) (h : mx_H)  : mx_D (8, mm_X11_readSort, 99, [.ref 47, mx_junk], [.int s1, .ref 47]) h = (mx_C mm_X11_pass [.ref 47, .int s1] h).bind (fun o => mx_D (8, mm_X11_readSort, 102, [.ref 47, mx_junk], o.1.toList ++ []) o.2) := by
  exact q_call0 (as := [.int s1]) (rest := []) dX11_readSort_99 mx_inv_11_127 rfl rfl rfl ⟨Nat.le_of_ble_eq_true rfl, Nat.le_of_ble_eq_true rfl, (Nat.le_of_ble_eq_true rfl)⟩
theorem e_X11_readSort_102 (s0 : Int32) (h : mx_H)  : mx_D (8, mm_X11_readSort, 102, [.ref 47, mx_junk], [.int s0]) h = if s0 = 0 then mx_D (8, mm_X11_readSort, 133, [.ref 47, mx_junk], []) h else ((mx_C mm_X11_readWidth [.ref 47, .int 1] h).bind (fun o => mx_D (8, mm_X11_readSort, 110, [.ref 47, mx_junk], o.1.toList ++ []) o.2)) := by
  refine Eq.trans (q_if_eq 133 dX11_readSort_102 rfl) (q_ite2 ?_ ?_)
  · rfl
  · refine Eq.trans (q_aload_n dX11_readSort_105 rfl rfl) ?_
    refine Eq.trans (q_iconst (x := 1) dX11_readSort_106 rfl) ?_
    exact q_call0 (as := [.int 1]) (rest := []) dX11_readSort_107 mx_inv_11_215 rfl rfl rfl ⟨Nat.le_of_ble_eq_true rfl, Nat.le_of_ble_eq_true rfl, (Nat.le_of_ble_eq_true rfl)⟩
theorem e_X11_readSort_110 (s0 : Int32) (h : mx_H)  : mx_D (8, mm_X11_readSort, 110, [.ref 47, mx_junk], [.int s0]) h = if s0 < 0 then mx_D (8, mm_X11_readSort, 133, [.ref 47, mx_junk], []) h else (if (h.1 47 2) = 1 then mx_D (8, mm_X11_readSort, 127, [.ref 47, mx_junk], [.int 1, .ref 47]) h else (mx_D (8, mm_X11_readSort, 127, [.ref 47, mx_junk], [.int 0, .ref 47]) h)) := by
  refine Eq.trans (q_if_lt 133 dX11_readSort_110 rfl) (q_ite2 ?_ ?_)
  · rfl
  · refine Eq.trans (q_aload_n dX11_readSort_113 rfl rfl) ?_
    refine Eq.trans (q_aload_n dX11_readSort_114 rfl rfl) ?_
    refine Eq.trans (q_getf dX11_readSort_115 mx_fld_11_115 (gf_47_2 _)) ?_
    refine Eq.trans (q_iconst (x := 1) dX11_readSort_118 rfl) ?_
    refine Eq.trans (q_icmp_ne 126 dX11_readSort_119 rfl) (q_ite2 ?_ ?_)
    · refine Eq.trans (q_iconst (x := 1) dX11_readSort_122 rfl) ?_
      refine Eq.trans (q_goto 127 dX11_readSort_123 rfl) ?_
      rfl
    · refine Eq.trans (q_iconst (x := 0) dX11_readSort_126 rfl) ?_
      rfl
theorem e_X11_readSort_127 (s1 : Int32) (h : mx_H)  : mx_D (8, mm_X11_readSort, 127, [.ref 47, mx_junk], [.int s1, .ref 47]) h = (mx_C mm_X11_pass [.ref 47, .int s1] h).bind (fun o => mx_D (8, mm_X11_readSort, 130, [.ref 47, mx_junk], o.1.toList ++ []) o.2) := by
  exact q_call0 (as := [.int s1]) (rest := []) dX11_readSort_127 mx_inv_11_127 rfl rfl rfl ⟨Nat.le_of_ble_eq_true rfl, Nat.le_of_ble_eq_true rfl, (Nat.le_of_ble_eq_true rfl)⟩
theorem e_X11_readSort_130 (s0 : Int32) (h : mx_H)  : mx_D (8, mm_X11_readSort, 130, [.ref 47, mx_junk], [.int s0]) h = if s0 = 0 then mx_D (8, mm_X11_readSort, 133, [.ref 47, mx_junk], []) h else ((mx_C mm_X11_readWidth [.ref 47, .int 4] h).bind (fun o => mx_D (8, mm_X11_readSort, 140, [.ref 47, mx_junk], o.1.toList ++ []) o.2)) := by
  refine Eq.trans (q_if_ne 135 dX11_readSort_130 rfl) (q_ite2 ?_ ?_)
  · rfl
  · refine Eq.trans (q_aload_n dX11_readSort_135 rfl rfl) ?_
    refine Eq.trans (q_iconst (x := 4) dX11_readSort_136 rfl) ?_
    exact q_call0 (as := [.int 4]) (rest := []) dX11_readSort_137 mx_inv_11_215 rfl rfl rfl ⟨Nat.le_of_ble_eq_true rfl, Nat.le_of_ble_eq_true rfl, (Nat.le_of_ble_eq_true rfl)⟩
theorem e_X11_readSort_133  (h : mx_H)  : mx_D (8, mm_X11_readSort, 133, [.ref 47, mx_junk], []) h = some (some (.int ((-1))), h) := by
  refine Eq.trans (q_iconst (x := (-1)) dX11_readSort_133 rfl) ?_
  exact q_retI dX11_readSort_134 rfl
theorem e_X11_readSort_140 (s0 : Int32) (h : mx_H)  : mx_D (8, mm_X11_readSort, 140, [.ref 47, mx_junk], [.int s0]) h = if s0 ≤ 0 then mx_D (8, mm_X11_readSort, 171, [.ref 47, .int s0], []) h else (if (h.1 47 2) = 2 then mx_D (8, mm_X11_readSort, 159, [.ref 47, .int s0], [.int 1, .ref 47]) h else (mx_D (8, mm_X11_readSort, 159, [.ref 47, .int s0], [.int 0, .ref 47]) h)) := by
  refine Eq.trans (q_istore_n (L' := [.ref 47, .int s0]) dX11_readSort_140 (Nat.le_of_ble_eq_true rfl) rfl) ?_
  refine Eq.trans (q_iload_n dX11_readSort_141 rfl) ?_
  refine Eq.trans (q_if_le 171 dX11_readSort_142 rfl) (q_ite2 ?_ ?_)
  · rfl
  · refine Eq.trans (q_aload_n dX11_readSort_145 rfl rfl) ?_
    refine Eq.trans (q_aload_n dX11_readSort_146 rfl rfl) ?_
    refine Eq.trans (q_getf dX11_readSort_147 mx_fld_11_115 (gf_47_2 _)) ?_
    refine Eq.trans (q_iconst (x := 2) dX11_readSort_150 rfl) ?_
    refine Eq.trans (q_icmp_ne 158 dX11_readSort_151 rfl) (q_ite2 ?_ ?_)
    · refine Eq.trans (q_iconst (x := 1) dX11_readSort_154 rfl) ?_
      refine Eq.trans (q_goto 159 dX11_readSort_155 rfl) ?_
      rfl
    · refine Eq.trans (q_iconst (x := 0) dX11_readSort_158 rfl) ?_
      rfl
theorem e_X11_readSort_159 (v1 : Int32) (s1 : Int32) (h : mx_H)  : mx_D (8, mm_X11_readSort, 159, [.ref 47, .int v1], [.int s1, .ref 47]) h = (mx_C mm_X11_pass [.ref 47, .int s1] h).bind (fun o => mx_D (8, mm_X11_readSort, 162, [.ref 47, .int v1], o.1.toList ++ []) o.2) := by
  exact q_call0 (as := [.int s1]) (rest := []) dX11_readSort_159 mx_inv_11_127 rfl rfl rfl ⟨Nat.le_of_ble_eq_true rfl, Nat.le_of_ble_eq_true rfl, (Nat.le_of_ble_eq_true rfl)⟩
theorem e_X11_readSort_162 (v1 : Int32) (s0 : Int32) (h : mx_H)  : mx_D (8, mm_X11_readSort, 162, [.ref 47, .int v1], [.int s0]) h = if s0 = 0 then mx_D (8, mm_X11_readSort, 171, [.ref 47, .int v1], []) h else (mx_D (8, mm_X11_readSort, 172, [.ref 47, .int v1], [.int (4 + v1)]) h) := by
  refine Eq.trans (q_if_eq 171 dX11_readSort_162 rfl) (q_ite2 ?_ ?_)
  · rfl
  · refine Eq.trans (q_iconst (x := 4) dX11_readSort_165 rfl) ?_
    refine Eq.trans (q_iload_n dX11_readSort_166 rfl) ?_
    refine Eq.trans (q_iadd dX11_readSort_167) ?_
    refine Eq.trans (q_goto 172 dX11_readSort_168 rfl) ?_
    rfl
theorem e_X11_readSort_171 (v1 : Int32) (h : mx_H)  : mx_D (8, mm_X11_readSort, 171, [.ref 47, .int v1], []) h = mx_D (8, mm_X11_readSort, 172, [.ref 47, .int v1], [.int ((-1))]) h := by
  refine Eq.trans (q_iconst (x := (-1)) dX11_readSort_171 rfl) ?_
  rfl
theorem e_X11_readSort_172 (v1 : Int32) (s0 : Int32) (h : mx_H)  : mx_D (8, mm_X11_readSort, 172, [.ref 47, .int v1], [.int s0]) h = some (some (.int s0), h) := by
  exact q_retI dX11_readSort_172 rfl
theorem e_X11_make_0 (v1 : Int32) (v2 : Int32) (v3 : Int32) (v4 : Int32) (v5 : Int32) (v6 : Int32) (v7 : Int32) (h : mx_H)  : mx_D (1, mm_X11_make, 0, [.ref 47, .int v1, .int v2, .int v3, .int v4, .int v5, .int v6, .int v7, mx_junk, mx_junk, mx_junk], []) h = mx_D (1, mm_X11_make, 6, [.ref 47, .int v1, .int v2, .int v3, .int v4, .int v5, .int v6, .int v7, .int ((-1)), .int 0, mx_junk], []) h := by
  refine Eq.trans (q_iconst (x := (-1)) dX11_make_0 rfl) ?_
  refine Eq.trans (q_istore (L' := [.ref 47, .int v1, .int v2, .int v3, .int v4, .int v5, .int v6, .int v7, .int ((-1)), mx_junk, mx_junk]) dX11_make_1 (Nat.le_of_ble_eq_true rfl) rfl) ?_
  refine Eq.trans (q_iconst (x := 0) dX11_make_3 rfl) ?_
  refine Eq.trans (q_istore (L' := [.ref 47, .int v1, .int v2, .int v3, .int v4, .int v5, .int v6, .int v7, .int ((-1)), .int 0, mx_junk]) dX11_make_4 (Nat.le_of_ble_eq_true rfl) rfl) ?_
  rfl
theorem c_X11_make (v1 : Int32) (v2 : Int32) (v3 : Int32) (v4 : Int32) (v5 : Int32) (v6 : Int32) (v7 : Int32) (h : mx_H) : mx_C mm_X11_make [.ref 47, .int v1, .int v2, .int v3, .int v4, .int v5, .int v6, .int v7] h = mx_D (1, mm_X11_make, 0, [.ref 47, .int v1, .int v2, .int v3, .int v4, .int v5, .int v6, .int v7, mx_junk, mx_junk, mx_junk], []) h := rfl
theorem e_X11_make_6 (v1 : Int32) (v2 : Int32) (v3 : Int32) (v4 : Int32) (v5 : Int32) (v6 : Int32) (v7 : Int32) (v8 : Int32) (v9 : Int32) (v10 : Value) (h : mx_H)  : mx_D (1, mm_X11_make, 6, [.ref 47, .int v1, .int v2, .int v3, .int v4, .int v5, .int v6, .int v7, .int v8, .int v9, v10], []) h = if (h.1 47 9) ≤ v9 then if v8 < 0 then if mx_in (h.1 47 9) 130 = true then if mx_in ((mx_u h.1 49 ((h.1 47 9).toNatClampNeg) v1) 47 9) 130 = true then if mx_in ((mx_u (mx_u h.1 49 ((h.1 47 9).toNatClampNeg) v1) 50 (((mx_u h.1 49 ((h.1 47 9).toNatClampNeg) v1) 47 9).toNatClampNeg) v2) 47 9) 130 = true then if mx_in ((mx_u (mx_u (mx_u h.1 49 ((h.1 47 9).toNatClampNeg) v1) 50 (((mx_u h.1 49 ((h.1 47 9).toNatClampNeg) v1) 47 9).toNatClampNeg) v2) 51 (((mx_u (mx_u h.1 49 ((h.1 47 9).toNatClampNeg) v1) 50 (((mx_u h.1 49 ((h.1 47 9).toNatClampNeg) v1) 47 9).toNatClampNeg) v2) 47 9).toNatClampNeg) v3) 47 9) 130 = true then if mx_in ((mx_u (mx_u (mx_u (mx_u h.1 49 ((h.1 47 9).toNatClampNeg) v1) 50 (((mx_u h.1 49 ((h.1 47 9).toNatClampNeg) v1) 47 9).toNatClampNeg) v2) 51 (((mx_u (mx_u h.1 49 ((h.1 47 9).toNatClampNeg) v1) 50 (((mx_u h.1 49 ((h.1 47 9).toNatClampNeg) v1) 47 9).toNatClampNeg) v2) 47 9).toNatClampNeg) v3) 52 (((mx_u (mx_u (mx_u h.1 49 ((h.1 47 9).toNatClampNeg) v1) 50 (((mx_u h.1 49 ((h.1 47 9).toNatClampNeg) v1) 47 9).toNatClampNeg) v2) 51 (((mx_u (mx_u h.1 49 ((h.1 47 9).toNatClampNeg) v1) 50 (((mx_u h.1 49 ((h.1 47 9).toNatClampNeg) v1) 47 9).toNatClampNeg) v2) 47 9).toNatClampNeg) v3) 47 9).toNatClampNeg) v4) 47 9) 130 = true then if mx_in ((mx_u (mx_u (mx_u (mx_u (mx_u h.1 49 ((h.1 47 9).toNatClampNeg) v1) 50 (((mx_u h.1 49 ((h.1 47 9).toNatClampNeg) v1) 47 9).toNatClampNeg) v2) 51 (((mx_u (mx_u h.1 49 ((h.1 47 9).toNatClampNeg) v1) 50 (((mx_u h.1 49 ((h.1 47 9).toNatClampNeg) v1) 47 9).toNatClampNeg) v2) 47 9).toNatClampNeg) v3) 52 (((mx_u (mx_u (mx_u h.1 49 ((h.1 47 9).toNatClampNeg) v1) 50 (((mx_u h.1 49 ((h.1 47 9).toNatClampNeg) v1) 47 9).toNatClampNeg) v2) 51 (((mx_u (mx_u h.1 49 ((h.1 47 9).toNatClampNeg) v1) 50 (((mx_u h.1 49 ((h.1 47 9).toNatClampNeg) v1) 47 9).toNatClampNeg) v2) 47 9).toNatClampNeg) v3) 47 9).toNatClampNeg) v4) 53 (((mx_u (mx_u (mx_u (mx_u h.1 49 ((h.1 47 9).toNatClampNeg) v1) 50 (((mx_u h.1 49 ((h.1 47 9).toNatClampNeg) v1) 47 9).toNatClampNeg) v2) 51 (((mx_u (mx_u h.1 49 ((h.1 47 9).toNatClampNeg) v1) 50 (((mx_u h.1 49 ((h.1 47 9).toNatClampNeg) v1) 47 9).toNatClampNeg) v2) 47 9).toNatClampNeg) v3) 52 (((mx_u (mx_u (mx_u h.1 49 ((h.1 47 9).toNatClampNeg) v1) 50 (((mx_u h.1 49 ((h.1 47 9).toNatClampNeg) v1) 47 9).toNatClampNeg) v2) 51 (((mx_u (mx_u h.1 49 ((h.1 47 9).toNatClampNeg) v1) 50 (((mx_u h.1 49 ((h.1 47 9).toNatClampNeg) v1) 47 9).toNatClampNeg) v2) 47 9).toNatClampNeg) v3) 47 9).toNatClampNeg) v4) 47 9).toNatClampNeg) v5) 47 9) 130 = true then if mx_in ((mx_u (mx_u (mx_u (mx_u (mx_u (mx_u h.1 49 ((h.1 47 9).toNatClampNeg) v1) 50 (((mx_u h.1 49 ((h.1 47 9).toNatClampNeg) v1) 47 9).toNatClampNeg) v2) 51 (((mx_u (mx_u h.1 49 ((h.1 47 9).toNatClampNeg) v1) 50 (((mx_u h.1 49 ((h.1 47 9).toNatClampNeg) v1) 47 9).toNatClampNeg) v2) 47 9).toNatClampNeg) v3) 52 (((mx_u (mx_u (mx_u h.1 49 ((h.1 47 9).toNatClampNeg) v1) 50 (((mx_u h.1 49 ((h.1 47 9).toNatClampNeg) v1) 47 9).toNatClampNeg) v2) 51 (((mx_u (mx_u h.1 49 ((h.1 47 9).toNatClampNeg) v1) 50 (((mx_u h.1 49 ((h.1 47 9).toNatClampNeg) v1) 47 9).toNatClampNeg) v2) 47 9).toNatClampNeg) v3) 47 9).toNatClampNeg) v4) 53 (((mx_u (mx_u (mx_u (mx_u h.1 49 ((h.1 47 9).toNatClampNeg) v1) 50 (((mx_u h.1 49 ((h.1 47 9).toNatClampNeg) v1) 47 9).toNatClampNeg) v2) 51 (((mx_u (mx_u h.1 49 ((h.1 47 9).toNatClampNeg) v1) 50 (((mx_u h.1 49 ((h.1 47 9).toNatClampNeg) v1) 47 9).toNatClampNeg) v2) 47 9).toNatClampNeg) v3) 52 (((mx_u (mx_u (mx_u h.1 49 ((h.1 47 9).toNatClampNeg) v1) 50 (((mx_u h.1 49 ((h.1 47 9).toNatClampNeg) v1) 47 9).toNatClampNeg) v2) 51 (((mx_u (mx_u h.1 49 ((h.1 47 9).toNatClampNeg) v1) 50 (((mx_u h.1 49 ((h.1 47 9).toNatClampNeg) v1) 47 9).toNatClampNeg) v2) 47 9).toNatClampNeg) v3) 47 9).toNatClampNeg) v4) 47 9).toNatClampNeg) v5) 54 (((mx_u (mx_u (mx_u (mx_u (mx_u h.1 49 ((h.1 47 9).toNatClampNeg) v1) 50 (((mx_u h.1 49 ((h.1 47 9).toNatClampNeg) v1) 47 9).toNatClampNeg) v2) 51 (((mx_u (mx_u h.1 49 ((h.1 47 9).toNatClampNeg) v1) 50 (((mx_u h.1 49 ((h.1 47 9).toNatClampNeg) v1) 47 9).toNatClampNeg) v2) 47 9).toNatClampNeg) v3) 52 (((mx_u (mx_u (mx_u h.1 49 ((h.1 47 9).toNatClampNeg) v1) 50 (((mx_u h.1 49 ((h.1 47 9).toNatClampNeg) v1) 47 9).toNatClampNeg) v2) 51 (((mx_u (mx_u h.1 49 ((h.1 47 9).toNatClampNeg) v1) 50 (((mx_u h.1 49 ((h.1 47 9).toNatClampNeg) v1) 47 9).toNatClampNeg) v2) 47 9).toNatClampNeg) v3) 47 9).toNatClampNeg) v4) 53 (((mx_u (mx_u (mx_u (mx_u h.1 49 ((h.1 47 9).toNatClampNeg) v1) 50 (((mx_u h.1 49 ((h.1 47 9).toNatClampNeg) v1) 47 9).toNatClampNeg) v2) 51 (((mx_u (mx_u h.1 49 ((h.1 47 9).toNatClampNeg) v1) 50 (((mx_u h.1 49 ((h.1 47 9).toNatClampNeg) v1) 47 9).toNatClampNeg) v2) 47 9).toNatClampNeg) v3) 52 (((mx_u (mx_u (mx_u h.1 49 ((h.1 47 9).toNatClampNeg) v1) 50 (((mx_u h.1 49 ((h.1 47 9).toNatClampNeg) v1) 47 9).toNatClampNeg) v2) 51 (((mx_u (mx_u h.1 49 ((h.1 47 9).toNatClampNeg) v1) 50 (((mx_u h.1 49 ((h.1 47 9).toNatClampNeg) v1) 47 9).toNatClampNeg) v2) 47 9).toNatClampNeg) v3) 47 9).toNatClampNeg) v4) 47 9).toNatClampNeg) v5) 47 9).toNatClampNeg) v6) 47 9) 130 = true then some (some (.int (((mx_u (mx_u (mx_u (mx_u (mx_u (mx_u (mx_u (mx_u h.1 49 ((h.1 47 9).toNatClampNeg) v1) 50 (((mx_u h.1 49 ((h.1 47 9).toNatClampNeg) v1) 47 9).toNatClampNeg) v2) 51 (((mx_u (mx_u h.1 49 ((h.1 47 9).toNatClampNeg) v1) 50 (((mx_u h.1 49 ((h.1 47 9).toNatClampNeg) v1) 47 9).toNatClampNeg) v2) 47 9).toNatClampNeg) v3) 52 (((mx_u (mx_u (mx_u h.1 49 ((h.1 47 9).toNatClampNeg) v1) 50 (((mx_u h.1 49 ((h.1 47 9).toNatClampNeg) v1) 47 9).toNatClampNeg) v2) 51 (((mx_u (mx_u h.1 49 ((h.1 47 9).toNatClampNeg) v1) 50 (((mx_u h.1 49 ((h.1 47 9).toNatClampNeg) v1) 47 9).toNatClampNeg) v2) 47 9).toNatClampNeg) v3) 47 9).toNatClampNeg) v4) 53 (((mx_u (mx_u (mx_u (mx_u h.1 49 ((h.1 47 9).toNatClampNeg) v1) 50 (((mx_u h.1 49 ((h.1 47 9).toNatClampNeg) v1) 47 9).toNatClampNeg) v2) 51 (((mx_u (mx_u h.1 49 ((h.1 47 9).toNatClampNeg) v1) 50 (((mx_u h.1 49 ((h.1 47 9).toNatClampNeg) v1) 47 9).toNatClampNeg) v2) 47 9).toNatClampNeg) v3) 52 (((mx_u (mx_u (mx_u h.1 49 ((h.1 47 9).toNatClampNeg) v1) 50 (((mx_u h.1 49 ((h.1 47 9).toNatClampNeg) v1) 47 9).toNatClampNeg) v2) 51 (((mx_u (mx_u h.1 49 ((h.1 47 9).toNatClampNeg) v1) 50 (((mx_u h.1 49 ((h.1 47 9).toNatClampNeg) v1) 47 9).toNatClampNeg) v2) 47 9).toNatClampNeg) v3) 47 9).toNatClampNeg) v4) 47 9).toNatClampNeg) v5) 54 (((mx_u (mx_u (mx_u (mx_u (mx_u h.1 49 ((h.1 47 9).toNatClampNeg) v1) 50 (((mx_u h.1 49 ((h.1 47 9).toNatClampNeg) v1) 47 9).toNatClampNeg) v2) 51 (((mx_u (mx_u h.1 49 ((h.1 47 9).toNatClampNeg) v1) 50 (((mx_u h.1 49 ((h.1 47 9).toNatClampNeg) v1) 47 9).toNatClampNeg) v2) 47 9).toNatClampNeg) v3) 52 (((mx_u (mx_u (mx_u h.1 49 ((h.1 47 9).toNatClampNeg) v1) 50 (((mx_u h.1 49 ((h.1 47 9).toNatClampNeg) v1) 47 9).toNatClampNeg) v2) 51 (((mx_u (mx_u h.1 49 ((h.1 47 9).toNatClampNeg) v1) 50 (((mx_u h.1 49 ((h.1 47 9).toNatClampNeg) v1) 47 9).toNatClampNeg) v2) 47 9).toNatClampNeg) v3) 47 9).toNatClampNeg) v4) 53 (((mx_u (mx_u (mx_u (mx_u h.1 49 ((h.1 47 9).toNatClampNeg) v1) 50 (((mx_u h.1 49 ((h.1 47 9).toNatClampNeg) v1) 47 9).toNatClampNeg) v2) 51 (((mx_u (mx_u h.1 49 ((h.1 47 9).toNatClampNeg) v1) 50 (((mx_u h.1 49 ((h.1 47 9).toNatClampNeg) v1) 47 9).toNatClampNeg) v2) 47 9).toNatClampNeg) v3) 52 (((mx_u (mx_u (mx_u h.1 49 ((h.1 47 9).toNatClampNeg) v1) 50 (((mx_u h.1 49 ((h.1 47 9).toNatClampNeg) v1) 47 9).toNatClampNeg) v2) 51 (((mx_u (mx_u h.1 49 ((h.1 47 9).toNatClampNeg) v1) 50 (((mx_u h.1 49 ((h.1 47 9).toNatClampNeg) v1) 47 9).toNatClampNeg) v2) 47 9).toNatClampNeg) v3) 47 9).toNatClampNeg) v4) 47 9).toNatClampNeg) v5) 47 9).toNatClampNeg) v6) 55 (((mx_u (mx_u (mx_u (mx_u (mx_u (mx_u h.1 49 ((h.1 47 9).toNatClampNeg) v1) 50 (((mx_u h.1 49 ((h.1 47 9).toNatClampNeg) v1) 47 9).toNatClampNeg) v2) 51 (((mx_u (mx_u h.1 49 ((h.1 47 9).toNatClampNeg) v1) 50 (((mx_u h.1 49 ((h.1 47 9).toNatClampNeg) v1) 47 9).toNatClampNeg) v2) 47 9).toNatClampNeg) v3) 52 (((mx_u (mx_u (mx_u h.1 49 ((h.1 47 9).toNatClampNeg) v1) 50 (((mx_u h.1 49 ((h.1 47 9).toNatClampNeg) v1) 47 9).toNatClampNeg) v2) 51 (((mx_u (mx_u h.1 49 ((h.1 47 9).toNatClampNeg) v1) 50 (((mx_u h.1 49 ((h.1 47 9).toNatClampNeg) v1) 47 9).toNatClampNeg) v2) 47 9).toNatClampNeg) v3) 47 9).toNatClampNeg) v4) 53 (((mx_u (mx_u (mx_u (mx_u h.1 49 ((h.1 47 9).toNatClampNeg) v1) 50 (((mx_u h.1 49 ((h.1 47 9).toNatClampNeg) v1) 47 9).toNatClampNeg) v2) 51 (((mx_u (mx_u h.1 49 ((h.1 47 9).toNatClampNeg) v1) 50 (((mx_u h.1 49 ((h.1 47 9).toNatClampNeg) v1) 47 9).toNatClampNeg) v2) 47 9).toNatClampNeg) v3) 52 (((mx_u (mx_u (mx_u h.1 49 ((h.1 47 9).toNatClampNeg) v1) 50 (((mx_u h.1 49 ((h.1 47 9).toNatClampNeg) v1) 47 9).toNatClampNeg) v2) 51 (((mx_u (mx_u h.1 49 ((h.1 47 9).toNatClampNeg) v1) 50 (((mx_u h.1 49 ((h.1 47 9).toNatClampNeg) v1) 47 9).toNatClampNeg) v2) 47 9).toNatClampNeg) v3) 47 9).toNatClampNeg) v4) 47 9).toNatClampNeg) v5) 54 (((mx_u (mx_u (mx_u (mx_u (mx_u h.1 49 ((h.1 47 9).toNatClampNeg) v1) 50 (((mx_u h.1 49 ((h.1 47 9).toNatClampNeg) v1) 47 9).toNatClampNeg) v2) 51 (((mx_u (mx_u h.1 49 ((h.1 47 9).toNatClampNeg) v1) 50 (((mx_u h.1 49 ((h.1 47 9).toNatClampNeg) v1) 47 9).toNatClampNeg) v2) 47 9).toNatClampNeg) v3) 52 (((mx_u (mx_u (mx_u h.1 49 ((h.1 47 9).toNatClampNeg) v1) 50 (((mx_u h.1 49 ((h.1 47 9).toNatClampNeg) v1) 47 9).toNatClampNeg) v2) 51 (((mx_u (mx_u h.1 49 ((h.1 47 9).toNatClampNeg) v1) 50 (((mx_u h.1 49 ((h.1 47 9).toNatClampNeg) v1) 47 9).toNatClampNeg) v2) 47 9).toNatClampNeg) v3) 47 9).toNatClampNeg) v4) 53 (((mx_u (mx_u (mx_u (mx_u h.1 49 ((h.1 47 9).toNatClampNeg) v1) 50 (((mx_u h.1 49 ((h.1 47 9).toNatClampNeg) v1) 47 9).toNatClampNeg) v2) 51 (((mx_u (mx_u h.1 49 ((h.1 47 9).toNatClampNeg) v1) 50 (((mx_u h.1 49 ((h.1 47 9).toNatClampNeg) v1) 47 9).toNatClampNeg) v2) 47 9).toNatClampNeg) v3) 52 (((mx_u (mx_u (mx_u h.1 49 ((h.1 47 9).toNatClampNeg) v1) 50 (((mx_u h.1 49 ((h.1 47 9).toNatClampNeg) v1) 47 9).toNatClampNeg) v2) 51 (((mx_u (mx_u h.1 49 ((h.1 47 9).toNatClampNeg) v1) 50 (((mx_u h.1 49 ((h.1 47 9).toNatClampNeg) v1) 47 9).toNatClampNeg) v2) 47 9).toNatClampNeg) v3) 47 9).toNatClampNeg) v4) 47 9).toNatClampNeg) v5) 47 9).toNatClampNeg) v6) 47 9).toNatClampNeg) v7) 47 9 (((mx_u (mx_u (mx_u (mx_u (mx_u (mx_u (mx_u h.1 49 ((h.1 47 9).toNatClampNeg) v1) 50 (((mx_u h.1 49 ((h.1 47 9).toNatClampNeg) v1) 47 9).toNatClampNeg) v2) 51 (((mx_u (mx_u h.1 49 ((h.1 47 9).toNatClampNeg) v1) 50 (((mx_u h.1 49 ((h.1 47 9).toNatClampNeg) v1) 47 9).toNatClampNeg) v2) 47 9).toNatClampNeg) v3) 52 (((mx_u (mx_u (mx_u h.1 49 ((h.1 47 9).toNatClampNeg) v1) 50 (((mx_u h.1 49 ((h.1 47 9).toNatClampNeg) v1) 47 9).toNatClampNeg) v2) 51 (((mx_u (mx_u h.1 49 ((h.1 47 9).toNatClampNeg) v1) 50 (((mx_u h.1 49 ((h.1 47 9).toNatClampNeg) v1) 47 9).toNatClampNeg) v2) 47 9).toNatClampNeg) v3) 47 9).toNatClampNeg) v4) 53 (((mx_u (mx_u (mx_u (mx_u h.1 49 ((h.1 47 9).toNatClampNeg) v1) 50 (((mx_u h.1 49 ((h.1 47 9).toNatClampNeg) v1) 47 9).toNatClampNeg) v2) 51 (((mx_u (mx_u h.1 49 ((h.1 47 9).toNatClampNeg) v1) 50 (((mx_u h.1 49 ((h.1 47 9).toNatClampNeg) v1) 47 9).toNatClampNeg) v2) 47 9).toNatClampNeg) v3) 52 (((mx_u (mx_u (mx_u h.1 49 ((h.1 47 9).toNatClampNeg) v1) 50 (((mx_u h.1 49 ((h.1 47 9).toNatClampNeg) v1) 47 9).toNatClampNeg) v2) 51 (((mx_u (mx_u h.1 49 ((h.1 47 9).toNatClampNeg) v1) 50 (((mx_u h.1 49 ((h.1 47 9).toNatClampNeg) v1) 47 9).toNatClampNeg) v2) 47 9).toNatClampNeg) v3) 47 9).toNatClampNeg) v4) 47 9).toNatClampNeg) v5) 54 (((mx_u (mx_u (mx_u (mx_u (mx_u h.1 49 ((h.1 47 9).toNatClampNeg) v1) 50 (((mx_u h.1 49 ((h.1 47 9).toNatClampNeg) v1) 47 9).toNatClampNeg) v2) 51 (((mx_u (mx_u h.1 49 ((h.1 47 9).toNatClampNeg) v1) 50 (((mx_u h.1 49 ((h.1 47 9).toNatClampNeg) v1) 47 9).toNatClampNeg) v2) 47 9).toNatClampNeg) v3) 52 (((mx_u (mx_u (mx_u h.1 49 ((h.1 47 9).toNatClampNeg) v1) 50 (((mx_u h.1 49 ((h.1 47 9).toNatClampNeg) v1) 47 9).toNatClampNeg) v2) 51 (((mx_u (mx_u h.1 49 ((h.1 47 9).toNatClampNeg) v1) 50 (((mx_u h.1 49 ((h.1 47 9).toNatClampNeg) v1) 47 9).toNatClampNeg) v2) 47 9).toNatClampNeg) v3) 47 9).toNatClampNeg) v4) 53 (((mx_u (mx_u (mx_u (mx_u h.1 49 ((h.1 47 9).toNatClampNeg) v1) 50 (((mx_u h.1 49 ((h.1 47 9).toNatClampNeg) v1) 47 9).toNatClampNeg) v2) 51 (((mx_u (mx_u h.1 49 ((h.1 47 9).toNatClampNeg) v1) 50 (((mx_u h.1 49 ((h.1 47 9).toNatClampNeg) v1) 47 9).toNatClampNeg) v2) 47 9).toNatClampNeg) v3) 52 (((mx_u (mx_u (mx_u h.1 49 ((h.1 47 9).toNatClampNeg) v1) 50 (((mx_u h.1 49 ((h.1 47 9).toNatClampNeg) v1) 47 9).toNatClampNeg) v2) 51 (((mx_u (mx_u h.1 49 ((h.1 47 9).toNatClampNeg) v1) 50 (((mx_u h.1 49 ((h.1 47 9).toNatClampNeg) v1) 47 9).toNatClampNeg) v2) 47 9).toNatClampNeg) v3) 47 9).toNatClampNeg) v4) 47 9).toNatClampNeg) v5) 47 9).toNatClampNeg) v6) 55 (((mx_u (mx_u (mx_u (mx_u (mx_u (mx_u h.1 49 ((h.1 47 9).toNatClampNeg) v1) 50 (((mx_u h.1 49 ((h.1 47 9).toNatClampNeg) v1) 47 9).toNatClampNeg) v2) 51 (((mx_u (mx_u h.1 49 ((h.1 47 9).toNatClampNeg) v1) 50 (((mx_u h.1 49 ((h.1 47 9).toNatClampNeg) v1) 47 9).toNatClampNeg) v2) 47 9).toNatClampNeg) v3) 52 (((mx_u (mx_u (mx_u h.1 49 ((h.1 47 9).toNatClampNeg) v1) 50 (((mx_u h.1 49 ((h.1 47 9).toNatClampNeg) v1) 47 9).toNatClampNeg) v2) 51 (((mx_u (mx_u h.1 49 ((h.1 47 9).toNatClampNeg) v1) 50 (((mx_u h.1 49 ((h.1 47 9).toNatClampNeg) v1) 47 9).toNatClampNeg) v2) 47 9).toNatClampNeg) v3) 47 9).toNatClampNeg) v4) 53 (((mx_u (mx_u (mx_u (mx_u h.1 49 ((h.1 47 9).toNatClampNeg) v1) 50 (((mx_u h.1 49 ((h.1 47 9).toNatClampNeg) v1) 47 9).toNatClampNeg) v2) 51 (((mx_u (mx_u h.1 49 ((h.1 47 9).toNatClampNeg) v1) 50 (((mx_u h.1 49 ((h.1 47 9).toNatClampNeg) v1) 47 9).toNatClampNeg) v2) 47 9).toNatClampNeg) v3) 52 (((mx_u (mx_u (mx_u h.1 49 ((h.1 47 9).toNatClampNeg) v1) 50 (((mx_u h.1 49 ((h.1 47 9).toNatClampNeg) v1) 47 9).toNatClampNeg) v2) 51 (((mx_u (mx_u h.1 49 ((h.1 47 9).toNatClampNeg) v1) 50 (((mx_u h.1 49 ((h.1 47 9).toNatClampNeg) v1) 47 9).toNatClampNeg) v2) 47 9).toNatClampNeg) v3) 47 9).toNatClampNeg) v4) 47 9).toNatClampNeg) v5) 54 (((mx_u (mx_u (mx_u (mx_u (mx_u h.1 49 ((h.1 47 9).toNatClampNeg) v1) 50 (((mx_u h.1 49 ((h.1 47 9).toNatClampNeg) v1) 47 9).toNatClampNeg) v2) 51 (((mx_u (mx_u h.1 49 ((h.1 47 9).toNatClampNeg) v1) 50 (((mx_u h.1 49 ((h.1 47 9).toNatClampNeg) v1) 47 9).toNatClampNeg) v2) 47 9).toNatClampNeg) v3) 52 (((mx_u (mx_u (mx_u h.1 49 ((h.1 47 9).toNatClampNeg) v1) 50 (((mx_u h.1 49 ((h.1 47 9).toNatClampNeg) v1) 47 9).toNatClampNeg) v2) 51 (((mx_u (mx_u h.1 49 ((h.1 47 9).toNatClampNeg) v1) 50 (((mx_u h.1 49 ((h.1 47 9).toNatClampNeg) v1) 47 9).toNatClampNeg) v2) 47 9).toNatClampNeg) v3) 47 9).toNatClampNeg) v4) 53 (((mx_u (mx_u (mx_u (mx_u h.1 49 ((h.1 47 9).toNatClampNeg) v1) 50 (((mx_u h.1 49 ((h.1 47 9).toNatClampNeg) v1) 47 9).toNatClampNeg) v2) 51 (((mx_u (mx_u h.1 49 ((h.1 47 9).toNatClampNeg) v1) 50 (((mx_u h.1 49 ((h.1 47 9).toNatClampNeg) v1) 47 9).toNatClampNeg) v2) 47 9).toNatClampNeg) v3) 52 (((mx_u (mx_u (mx_u h.1 49 ((h.1 47 9).toNatClampNeg) v1) 50 (((mx_u h.1 49 ((h.1 47 9).toNatClampNeg) v1) 47 9).toNatClampNeg) v2) 51 (((mx_u (mx_u h.1 49 ((h.1 47 9).toNatClampNeg) v1) 50 (((mx_u h.1 49 ((h.1 47 9).toNatClampNeg) v1) 47 9).toNatClampNeg) v2) 47 9).toNatClampNeg) v3) 47 9).toNatClampNeg) v4) 47 9).toNatClampNeg) v5) 47 9).toNatClampNeg) v6) 47 9).toNatClampNeg) v7) 47 9) + 1)) 47 9) - 1)), ((mx_u (mx_u (mx_u (mx_u (mx_u (mx_u (mx_u (mx_u h.1 49 ((h.1 47 9).toNatClampNeg) v1) 50 (((mx_u h.1 49 ((h.1 47 9).toNatClampNeg) v1) 47 9).toNatClampNeg) v2) 51 (((mx_u (mx_u h.1 49 ((h.1 47 9).toNatClampNeg) v1) 50 (((mx_u h.1 49 ((h.1 47 9).toNatClampNeg) v1) 47 9).toNatClampNeg) v2) 47 9).toNatClampNeg) v3) 52 (((mx_u (mx_u (mx_u h.1 49 ((h.1 47 9).toNatClampNeg) v1) 50 (((mx_u h.1 49 ((h.1 47 9).toNatClampNeg) v1) 47 9).toNatClampNeg) v2) 51 (((mx_u (mx_u h.1 49 ((h.1 47 9).toNatClampNeg) v1) 50 (((mx_u h.1 49 ((h.1 47 9).toNatClampNeg) v1) 47 9).toNatClampNeg) v2) 47 9).toNatClampNeg) v3) 47 9).toNatClampNeg) v4) 53 (((mx_u (mx_u (mx_u (mx_u h.1 49 ((h.1 47 9).toNatClampNeg) v1) 50 (((mx_u h.1 49 ((h.1 47 9).toNatClampNeg) v1) 47 9).toNatClampNeg) v2) 51 (((mx_u (mx_u h.1 49 ((h.1 47 9).toNatClampNeg) v1) 50 (((mx_u h.1 49 ((h.1 47 9).toNatClampNeg) v1) 47 9).toNatClampNeg) v2) 47 9).toNatClampNeg) v3) 52 (((mx_u (mx_u (mx_u h.1 49 ((h.1 47 9).toNatClampNeg) v1) 50 (((mx_u h.1 49 ((h.1 47 9).toNatClampNeg) v1) 47 9).toNatClampNeg) v2) 51 (((mx_u (mx_u h.1 49 ((h.1 47 9).toNatClampNeg) v1) 50 (((mx_u h.1 49 ((h.1 47 9).toNatClampNeg) v1) 47 9).toNatClampNeg) v2) 47 9).toNatClampNeg) v3) 47 9).toNatClampNeg) v4) 47 9).toNatClampNeg) v5) 54 (((mx_u (mx_u (mx_u (mx_u (mx_u h.1 49 ((h.1 47 9).toNatClampNeg) v1) 50 (((mx_u h.1 49 ((h.1 47 9).toNatClampNeg) v1) 47 9).toNatClampNeg) v2) 51 (((mx_u (mx_u h.1 49 ((h.1 47 9).toNatClampNeg) v1) 50 (((mx_u h.1 49 ((h.1 47 9).toNatClampNeg) v1) 47 9).toNatClampNeg) v2) 47 9).toNatClampNeg) v3) 52 (((mx_u (mx_u (mx_u h.1 49 ((h.1 47 9).toNatClampNeg) v1) 50 (((mx_u h.1 49 ((h.1 47 9).toNatClampNeg) v1) 47 9).toNatClampNeg) v2) 51 (((mx_u (mx_u h.1 49 ((h.1 47 9).toNatClampNeg) v1) 50 (((mx_u h.1 49 ((h.1 47 9).toNatClampNeg) v1) 47 9).toNatClampNeg) v2) 47 9).toNatClampNeg) v3) 47 9).toNatClampNeg) v4) 53 (((mx_u (mx_u (mx_u (mx_u h.1 49 ((h.1 47 9).toNatClampNeg) v1) 50 (((mx_u h.1 49 ((h.1 47 9).toNatClampNeg) v1) 47 9).toNatClampNeg) v2) 51 (((mx_u (mx_u h.1 49 ((h.1 47 9).toNatClampNeg) v1) 50 (((mx_u h.1 49 ((h.1 47 9).toNatClampNeg) v1) 47 9).toNatClampNeg) v2) 47 9).toNatClampNeg) v3) 52 (((mx_u (mx_u (mx_u h.1 49 ((h.1 47 9).toNatClampNeg) v1) 50 (((mx_u h.1 49 ((h.1 47 9).toNatClampNeg) v1) 47 9).toNatClampNeg) v2) 51 (((mx_u (mx_u h.1 49 ((h.1 47 9).toNatClampNeg) v1) 50 (((mx_u h.1 49 ((h.1 47 9).toNatClampNeg) v1) 47 9).toNatClampNeg) v2) 47 9).toNatClampNeg) v3) 47 9).toNatClampNeg) v4) 47 9).toNatClampNeg) v5) 47 9).toNatClampNeg) v6) 55 (((mx_u (mx_u (mx_u (mx_u (mx_u (mx_u h.1 49 ((h.1 47 9).toNatClampNeg) v1) 50 (((mx_u h.1 49 ((h.1 47 9).toNatClampNeg) v1) 47 9).toNatClampNeg) v2) 51 (((mx_u (mx_u h.1 49 ((h.1 47 9).toNatClampNeg) v1) 50 (((mx_u h.1 49 ((h.1 47 9).toNatClampNeg) v1) 47 9).toNatClampNeg) v2) 47 9).toNatClampNeg) v3) 52 (((mx_u (mx_u (mx_u h.1 49 ((h.1 47 9).toNatClampNeg) v1) 50 (((mx_u h.1 49 ((h.1 47 9).toNatClampNeg) v1) 47 9).toNatClampNeg) v2) 51 (((mx_u (mx_u h.1 49 ((h.1 47 9).toNatClampNeg) v1) 50 (((mx_u h.1 49 ((h.1 47 9).toNatClampNeg) v1) 47 9).toNatClampNeg) v2) 47 9).toNatClampNeg) v3) 47 9).toNatClampNeg) v4) 53 (((mx_u (mx_u (mx_u (mx_u h.1 49 ((h.1 47 9).toNatClampNeg) v1) 50 (((mx_u h.1 49 ((h.1 47 9).toNatClampNeg) v1) 47 9).toNatClampNeg) v2) 51 (((mx_u (mx_u h.1 49 ((h.1 47 9).toNatClampNeg) v1) 50 (((mx_u h.1 49 ((h.1 47 9).toNatClampNeg) v1) 47 9).toNatClampNeg) v2) 47 9).toNatClampNeg) v3) 52 (((mx_u (mx_u (mx_u h.1 49 ((h.1 47 9).toNatClampNeg) v1) 50 (((mx_u h.1 49 ((h.1 47 9).toNatClampNeg) v1) 47 9).toNatClampNeg) v2) 51 (((mx_u (mx_u h.1 49 ((h.1 47 9).toNatClampNeg) v1) 50 (((mx_u h.1 49 ((h.1 47 9).toNatClampNeg) v1) 47 9).toNatClampNeg) v2) 47 9).toNatClampNeg) v3) 47 9).toNatClampNeg) v4) 47 9).toNatClampNeg) v5) 54 (((mx_u (mx_u (mx_u (mx_u (mx_u h.1 49 ((h.1 47 9).toNatClampNeg) v1) 50 (((mx_u h.1 49 ((h.1 47 9).toNatClampNeg) v1) 47 9).toNatClampNeg) v2) 51 (((mx_u (mx_u h.1 49 ((h.1 47 9).toNatClampNeg) v1) 50 (((mx_u h.1 49 ((h.1 47 9).toNatClampNeg) v1) 47 9).toNatClampNeg) v2) 47 9).toNatClampNeg) v3) 52 (((mx_u (mx_u (mx_u h.1 49 ((h.1 47 9).toNatClampNeg) v1) 50 (((mx_u h.1 49 ((h.1 47 9).toNatClampNeg) v1) 47 9).toNatClampNeg) v2) 51 (((mx_u (mx_u h.1 49 ((h.1 47 9).toNatClampNeg) v1) 50 (((mx_u h.1 49 ((h.1 47 9).toNatClampNeg) v1) 47 9).toNatClampNeg) v2) 47 9).toNatClampNeg) v3) 47 9).toNatClampNeg) v4) 53 (((mx_u (mx_u (mx_u (mx_u h.1 49 ((h.1 47 9).toNatClampNeg) v1) 50 (((mx_u h.1 49 ((h.1 47 9).toNatClampNeg) v1) 47 9).toNatClampNeg) v2) 51 (((mx_u (mx_u h.1 49 ((h.1 47 9).toNatClampNeg) v1) 50 (((mx_u h.1 49 ((h.1 47 9).toNatClampNeg) v1) 47 9).toNatClampNeg) v2) 47 9).toNatClampNeg) v3) 52 (((mx_u (mx_u (mx_u h.1 49 ((h.1 47 9).toNatClampNeg) v1) 50 (((mx_u h.1 49 ((h.1 47 9).toNatClampNeg) v1) 47 9).toNatClampNeg) v2) 51 (((mx_u (mx_u h.1 49 ((h.1 47 9).toNatClampNeg) v1) 50 (((mx_u h.1 49 ((h.1 47 9).toNatClampNeg) v1) 47 9).toNatClampNeg) v2) 47 9).toNatClampNeg) v3) 47 9).toNatClampNeg) v4) 47 9).toNatClampNeg) v5) 47 9).toNatClampNeg) v6) 47 9).toNatClampNeg) v7) 47 9 (((mx_u (mx_u (mx_u (mx_u (mx_u (mx_u (mx_u h.1 49 ((h.1 47 9).toNatClampNeg) v1) 50 (((mx_u h.1 49 ((h.1 47 9).toNatClampNeg) v1) 47 9).toNatClampNeg) v2) 51 (((mx_u (mx_u h.1 49 ((h.1 47 9).toNatClampNeg) v1) 50 (((mx_u h.1 49 ((h.1 47 9).toNatClampNeg) v1) 47 9).toNatClampNeg) v2) 47 9).toNatClampNeg) v3) 52 (((mx_u (mx_u (mx_u h.1 49 ((h.1 47 9).toNatClampNeg) v1) 50 (((mx_u h.1 49 ((h.1 47 9).toNatClampNeg) v1) 47 9).toNatClampNeg) v2) 51 (((mx_u (mx_u h.1 49 ((h.1 47 9).toNatClampNeg) v1) 50 (((mx_u h.1 49 ((h.1 47 9).toNatClampNeg) v1) 47 9).toNatClampNeg) v2) 47 9).toNatClampNeg) v3) 47 9).toNatClampNeg) v4) 53 (((mx_u (mx_u (mx_u (mx_u h.1 49 ((h.1 47 9).toNatClampNeg) v1) 50 (((mx_u h.1 49 ((h.1 47 9).toNatClampNeg) v1) 47 9).toNatClampNeg) v2) 51 (((mx_u (mx_u h.1 49 ((h.1 47 9).toNatClampNeg) v1) 50 (((mx_u h.1 49 ((h.1 47 9).toNatClampNeg) v1) 47 9).toNatClampNeg) v2) 47 9).toNatClampNeg) v3) 52 (((mx_u (mx_u (mx_u h.1 49 ((h.1 47 9).toNatClampNeg) v1) 50 (((mx_u h.1 49 ((h.1 47 9).toNatClampNeg) v1) 47 9).toNatClampNeg) v2) 51 (((mx_u (mx_u h.1 49 ((h.1 47 9).toNatClampNeg) v1) 50 (((mx_u h.1 49 ((h.1 47 9).toNatClampNeg) v1) 47 9).toNatClampNeg) v2) 47 9).toNatClampNeg) v3) 47 9).toNatClampNeg) v4) 47 9).toNatClampNeg) v5) 54 (((mx_u (mx_u (mx_u (mx_u (mx_u h.1 49 ((h.1 47 9).toNatClampNeg) v1) 50 (((mx_u h.1 49 ((h.1 47 9).toNatClampNeg) v1) 47 9).toNatClampNeg) v2) 51 (((mx_u (mx_u h.1 49 ((h.1 47 9).toNatClampNeg) v1) 50 (((mx_u h.1 49 ((h.1 47 9).toNatClampNeg) v1) 47 9).toNatClampNeg) v2) 47 9).toNatClampNeg) v3) 52 (((mx_u (mx_u (mx_u h.1 49 ((h.1 47 9).toNatClampNeg) v1) 50 (((mx_u h.1 49 ((h.1 47 9).toNatClampNeg) v1) 47 9).toNatClampNeg) v2) 51 (((mx_u (mx_u h.1 49 ((h.1 47 9).toNatClampNeg) v1) 50 (((mx_u h.1 49 ((h.1 47 9).toNatClampNeg) v1) 47 9).toNatClampNeg) v2) 47 9).toNatClampNeg) v3) 47 9).toNatClampNeg) v4) 53 (((mx_u (mx_u (mx_u (mx_u h.1 49 ((h.1 47 9).toNatClampNeg) v1) 50 (((mx_u h.1 49 ((h.1 47 9).toNatClampNeg) v1) 47 9).toNatClampNeg) v2) 51 (((mx_u (mx_u h.1 49 ((h.1 47 9).toNatClampNeg) v1) 50 (((mx_u h.1 49 ((h.1 47 9).toNatClampNeg) v1) 47 9).toNatClampNeg) v2) 47 9).toNatClampNeg) v3) 52 (((mx_u (mx_u (mx_u h.1 49 ((h.1 47 9).toNatClampNeg) v1) 50 (((mx_u h.1 49 ((h.1 47 9).toNatClampNeg) v1) 47 9).toNatClampNeg) v2) 51 (((mx_u (mx_u h.1 49 ((h.1 47 9).toNatClampNeg) v1) 50 (((mx_u h.1 49 ((h.1 47 9).toNatClampNeg) v1) 47 9).toNatClampNeg) v2) 47 9).toNatClampNeg) v3) 47 9).toNatClampNeg) v4) 47 9).toNatClampNeg) v5) 47 9).toNatClampNeg) v6) 55 (((mx_u (mx_u (mx_u (mx_u (mx_u (mx_u h.1 49 ((h.1 47 9).toNatClampNeg) v1) 50 (((mx_u h.1 49 ((h.1 47 9).toNatClampNeg) v1) 47 9).toNatClampNeg) v2) 51 (((mx_u (mx_u h.1 49 ((h.1 47 9).toNatClampNeg) v1) 50 (((mx_u h.1 49 ((h.1 47 9).toNatClampNeg) v1) 47 9).toNatClampNeg) v2) 47 9).toNatClampNeg) v3) 52 (((mx_u (mx_u (mx_u h.1 49 ((h.1 47 9).toNatClampNeg) v1) 50 (((mx_u h.1 49 ((h.1 47 9).toNatClampNeg) v1) 47 9).toNatClampNeg) v2) 51 (((mx_u (mx_u h.1 49 ((h.1 47 9).toNatClampNeg) v1) 50 (((mx_u h.1 49 ((h.1 47 9).toNatClampNeg) v1) 47 9).toNatClampNeg) v2) 47 9).toNatClampNeg) v3) 47 9).toNatClampNeg) v4) 53 (((mx_u (mx_u (mx_u (mx_u h.1 49 ((h.1 47 9).toNatClampNeg) v1) 50 (((mx_u h.1 49 ((h.1 47 9).toNatClampNeg) v1) 47 9).toNatClampNeg) v2) 51 (((mx_u (mx_u h.1 49 ((h.1 47 9).toNatClampNeg) v1) 50 (((mx_u h.1 49 ((h.1 47 9).toNatClampNeg) v1) 47 9).toNatClampNeg) v2) 47 9).toNatClampNeg) v3) 52 (((mx_u (mx_u (mx_u h.1 49 ((h.1 47 9).toNatClampNeg) v1) 50 (((mx_u h.1 49 ((h.1 47 9).toNatClampNeg) v1) 47 9).toNatClampNeg) v2) 51 (((mx_u (mx_u h.1 49 ((h.1 47 9).toNatClampNeg) v1) 50 (((mx_u h.1 49 ((h.1 47 9).toNatClampNeg) v1) 47 9).toNatClampNeg) v2) 47 9).toNatClampNeg) v3) 47 9).toNatClampNeg) v4) 47 9).toNatClampNeg) v5) 54 (((mx_u (mx_u (mx_u (mx_u (mx_u h.1 49 ((h.1 47 9).toNatClampNeg) v1) 50 (((mx_u h.1 49 ((h.1 47 9).toNatClampNeg) v1) 47 9).toNatClampNeg) v2) 51 (((mx_u (mx_u h.1 49 ((h.1 47 9).toNatClampNeg) v1) 50 (((mx_u h.1 49 ((h.1 47 9).toNatClampNeg) v1) 47 9).toNatClampNeg) v2) 47 9).toNatClampNeg) v3) 52 (((mx_u (mx_u (mx_u h.1 49 ((h.1 47 9).toNatClampNeg) v1) 50 (((mx_u h.1 49 ((h.1 47 9).toNatClampNeg) v1) 47 9).toNatClampNeg) v2) 51 (((mx_u (mx_u h.1 49 ((h.1 47 9).toNatClampNeg) v1) 50 (((mx_u h.1 49 ((h.1 47 9).toNatClampNeg) v1) 47 9).toNatClampNeg) v2) 47 9).toNatClampNeg) v3) 47 9).toNatClampNeg) v4) 53 (((mx_u (mx_u (mx_u (mx_u h.1 49 ((h.1 47 9).toNatClampNeg) v1) 50 (((mx_u h.1 49 ((h.1 47 9).toNatClampNeg) v1) 47 9).toNatClampNeg) v2) 51 (((mx_u (mx_u h.1 49 ((h.1 47 9).toNatClampNeg) v1) 50 (((mx_u h.1 49 ((h.1 47 9).toNatClampNeg) v1) 47 9).toNatClampNeg) v2) 47 9).toNatClampNeg) v3) 52 (((mx_u (mx_u (mx_u h.1 49 ((h.1 47 9).toNatClampNeg) v1) 50 (((mx_u h.1 49 ((h.1 47 9).toNatClampNeg) v1) 47 9).toNatClampNeg) v2) 51 (((mx_u (mx_u h.1 49 ((h.1 47 9).toNatClampNeg) v1) 50 (((mx_u h.1 49 ((h.1 47 9).toNatClampNeg) v1) 47 9).toNatClampNeg) v2) 47 9).toNatClampNeg) v3) 47 9).toNatClampNeg) v4) 47 9).toNatClampNeg) v5) 47 9).toNatClampNeg) v6) 47 9).toNatClampNeg) v7) 47 9) + 1)), h.2.1, h.2.2)) else none else none else none else none else none else none else none else (some (some (.int v8), h)) else (if mx_in v9 130 = true then if (h.1 49 v9.toNatClampNeg) = v1 then if mx_in v9 130 = true then if (h.1 50 v9.toNatClampNeg) = v2 then if mx_in v9 130 = true then if (h.1 51 v9.toNatClampNeg) = v3 then if mx_in v9 130 = true then if (h.1 52 v9.toNatClampNeg) = v4 then if mx_in v9 130 = true then if (h.1 53 v9.toNatClampNeg) = v5 then if mx_in v9 130 = true then if (h.1 54 v9.toNatClampNeg) = v6 then if mx_in v9 130 = true then if (h.1 55 v9.toNatClampNeg) = v7 then mx_D (1, mm_X11_make, 101, [.ref 47, .int v1, .int v2, .int v3, .int v4, .int v5, .int v6, .int v7, .int v8, .int v9, v10], [.int 1]) h else (mx_D (1, mm_X11_make, 100, [.ref 47, .int v1, .int v2, .int v3, .int v4, .int v5, .int v6, .int v7, .int v8, .int v9, v10], []) h) else none else (mx_D (1, mm_X11_make, 100, [.ref 47, .int v1, .int v2, .int v3, .int v4, .int v5, .int v6, .int v7, .int v8, .int v9, v10], []) h) else none else (mx_D (1, mm_X11_make, 100, [.ref 47, .int v1, .int v2, .int v3, .int v4, .int v5, .int v6, .int v7, .int v8, .int v9, v10], []) h) else none else (mx_D (1, mm_X11_make, 100, [.ref 47, .int v1, .int v2, .int v3, .int v4, .int v5, .int v6, .int v7, .int v8, .int v9, v10], []) h) else none else (mx_D (1, mm_X11_make, 100, [.ref 47, .int v1, .int v2, .int v3, .int v4, .int v5, .int v6, .int v7, .int v8, .int v9, v10], []) h) else none else (mx_D (1, mm_X11_make, 100, [.ref 47, .int v1, .int v2, .int v3, .int v4, .int v5, .int v6, .int v7, .int v8, .int v9, v10], []) h) else none else (mx_D (1, mm_X11_make, 100, [.ref 47, .int v1, .int v2, .int v3, .int v4, .int v5, .int v6, .int v7, .int v8, .int v9, v10], []) h) else none) := by
  refine Eq.trans (q_iload dX11_make_6 rfl) ?_
  refine Eq.trans (q_aload_n dX11_make_8 rfl rfl) ?_
  refine Eq.trans (q_getf dX11_make_9 mx_fld_11_219 (gf_47_9 _)) ?_
  refine Eq.trans (q_icmp_ge 123 dX11_make_12 rfl) (q_ite2 ?_ ?_)
  · refine Eq.trans (q_iload dX11_make_123 rfl) ?_
    refine Eq.trans (q_if_lt 131 dX11_make_125 rfl) (q_ite2 ?_ ?_)
    · refine Eq.trans (q_aload_n dX11_make_131 rfl rfl) ?_
      refine Eq.trans (q_getf dX11_make_132 mx_fld_11_13 (gf_47_10 _)) ?_
      refine Eq.trans (q_aload_n dX11_make_135 rfl rfl) ?_
      refine Eq.trans (q_getf dX11_make_136 mx_fld_11_219 (gf_47_9 _)) ?_
      refine Eq.trans (q_iload_n dX11_make_139 rfl) ?_
      refine Eq.trans (q_st (w := 0) (by decide) dX11_make_140 (as_49 _ _ _)) (q_ite ?_)
      refine Eq.trans (q_aload_n dX11_make_141 rfl rfl) ?_
      refine Eq.trans (q_getf dX11_make_142 mx_fld_11_16 (gf_47_11 _)) ?_
      refine Eq.trans (q_aload_n dX11_make_145 rfl rfl) ?_
      refine Eq.trans (q_getf dX11_make_146 mx_fld_11_219 (gf_47_9 _)) ?_
      refine Eq.trans (q_iload_n dX11_make_149 rfl) ?_
      refine Eq.trans (q_st (w := 0) (by decide) dX11_make_150 (as_50 _ _ _)) (q_ite ?_)
      refine Eq.trans (q_aload_n dX11_make_151 rfl rfl) ?_
      refine Eq.trans (q_getf dX11_make_152 mx_fld_11_19 (gf_47_12 _)) ?_
      refine Eq.trans (q_aload_n dX11_make_155 rfl rfl) ?_
      refine Eq.trans (q_getf dX11_make_156 mx_fld_11_219 (gf_47_9 _)) ?_
      refine Eq.trans (q_iload_n dX11_make_159 rfl) ?_
      refine Eq.trans (q_st (w := 0) (by decide) dX11_make_160 (as_51 _ _ _)) (q_ite ?_)
      refine Eq.trans (q_aload_n dX11_make_161 rfl rfl) ?_
      refine Eq.trans (q_getf dX11_make_162 mx_fld_11_22 (gf_47_13 _)) ?_
      refine Eq.trans (q_aload_n dX11_make_165 rfl rfl) ?_
      refine Eq.trans (q_getf dX11_make_166 mx_fld_11_219 (gf_47_9 _)) ?_
      refine Eq.trans (q_iload dX11_make_169 rfl) ?_
      refine Eq.trans (q_st (w := 0) (by decide) dX11_make_171 (as_52 _ _ _)) (q_ite ?_)
      refine Eq.trans (q_aload_n dX11_make_172 rfl rfl) ?_
      refine Eq.trans (q_getf dX11_make_173 mx_fld_11_25 (gf_47_14 _)) ?_
      refine Eq.trans (q_aload_n dX11_make_176 rfl rfl) ?_
      refine Eq.trans (q_getf dX11_make_177 mx_fld_11_219 (gf_47_9 _)) ?_
      refine Eq.trans (q_iload dX11_make_180 rfl) ?_
      refine Eq.trans (q_st (w := 0) (by decide) dX11_make_182 (as_53 _ _ _)) (q_ite ?_)
      refine Eq.trans (q_aload_n dX11_make_183 rfl rfl) ?_
      refine Eq.trans (q_getf dX11_make_184 mx_fld_11_28 (gf_47_15 _)) ?_
      refine Eq.trans (q_aload_n dX11_make_187 rfl rfl) ?_
      refine Eq.trans (q_getf dX11_make_188 mx_fld_11_219 (gf_47_9 _)) ?_
      refine Eq.trans (q_iload dX11_make_191 rfl) ?_
      refine Eq.trans (q_st (w := 0) (by decide) dX11_make_193 (as_54 _ _ _)) (q_ite ?_)
      refine Eq.trans (q_aload_n dX11_make_194 rfl rfl) ?_
      refine Eq.trans (q_getf dX11_make_195 mx_fld_11_31 (gf_47_16 _)) ?_
      refine Eq.trans (q_aload_n dX11_make_198 rfl rfl) ?_
      refine Eq.trans (q_getf dX11_make_199 mx_fld_11_219 (gf_47_9 _)) ?_
      refine Eq.trans (q_iload dX11_make_202 rfl) ?_
      refine Eq.trans (q_st (w := 0) (by decide) dX11_make_204 (as_55 _ _ _)) (q_ite ?_)
      refine Eq.trans (q_aload_n dX11_make_205 rfl rfl) ?_
      refine Eq.trans (q_aload_n dX11_make_206 rfl rfl) ?_
      refine Eq.trans (q_getf dX11_make_207 mx_fld_11_219 (gf_47_9 _)) ?_
      refine Eq.trans (q_iconst (x := 1) dX11_make_210 rfl) ?_
      refine Eq.trans (q_iadd dX11_make_211) ?_
      refine Eq.trans (q_putf dX11_make_212 mx_fld_11_219 (pf_47_9 _ _)) ?_
      refine Eq.trans (q_aload_n dX11_make_215 rfl rfl) ?_
      refine Eq.trans (q_getf dX11_make_216 mx_fld_11_219 (gf_47_9 _)) ?_
      refine Eq.trans (q_iconst (x := 1) dX11_make_219 rfl) ?_
      refine Eq.trans (q_isub dX11_make_220) ?_
      exact q_retI dX11_make_221 rfl
    · refine Eq.trans (q_iload dX11_make_128 rfl) ?_
      exact q_retI dX11_make_130 rfl
  · refine Eq.trans (q_aload_n dX11_make_15 rfl rfl) ?_
    refine Eq.trans (q_getf dX11_make_16 mx_fld_11_13 (gf_47_10 _)) ?_
    refine Eq.trans (q_iload dX11_make_19 rfl) ?_
    refine Eq.trans (q_ld (w := 0) (by decide) dX11_make_21 (al_49 _ _)) (q_ite ?_)
    refine Eq.trans (q_iload_n dX11_make_22 rfl) ?_
    refine Eq.trans (q_icmp_ne 100 dX11_make_23 rfl) (q_ite2 ?_ ?_)
    · refine Eq.trans (q_aload_n dX11_make_26 rfl rfl) ?_
      refine Eq.trans (q_getf dX11_make_27 mx_fld_11_16 (gf_47_11 _)) ?_
      refine Eq.trans (q_iload dX11_make_30 rfl) ?_
      refine Eq.trans (q_ld (w := 0) (by decide) dX11_make_32 (al_50 _ _)) (q_ite ?_)
      refine Eq.trans (q_iload_n dX11_make_33 rfl) ?_
      refine Eq.trans (q_icmp_ne 100 dX11_make_34 rfl) (q_ite2 ?_ ?_)
      · refine Eq.trans (q_aload_n dX11_make_37 rfl rfl) ?_
        refine Eq.trans (q_getf dX11_make_38 mx_fld_11_19 (gf_47_12 _)) ?_
        refine Eq.trans (q_iload dX11_make_41 rfl) ?_
        refine Eq.trans (q_ld (w := 0) (by decide) dX11_make_43 (al_51 _ _)) (q_ite ?_)
        refine Eq.trans (q_iload_n dX11_make_44 rfl) ?_
        refine Eq.trans (q_icmp_ne 100 dX11_make_45 rfl) (q_ite2 ?_ ?_)
        · refine Eq.trans (q_aload_n dX11_make_48 rfl rfl) ?_
          refine Eq.trans (q_getf dX11_make_49 mx_fld_11_22 (gf_47_13 _)) ?_
          refine Eq.trans (q_iload dX11_make_52 rfl) ?_
          refine Eq.trans (q_ld (w := 0) (by decide) dX11_make_54 (al_52 _ _)) (q_ite ?_)
          refine Eq.trans (q_iload dX11_make_55 rfl) ?_
          refine Eq.trans (q_icmp_ne 100 dX11_make_57 rfl) (q_ite2 ?_ ?_)
          · refine Eq.trans (q_aload_n dX11_make_60 rfl rfl) ?_
            refine Eq.trans (q_getf dX11_make_61 mx_fld_11_25 (gf_47_14 _)) ?_
            refine Eq.trans (q_iload dX11_make_64 rfl) ?_
            refine Eq.trans (q_ld (w := 0) (by decide) dX11_make_66 (al_53 _ _)) (q_ite ?_)
            refine Eq.trans (q_iload dX11_make_67 rfl) ?_
            refine Eq.trans (q_icmp_ne 100 dX11_make_69 rfl) (q_ite2 ?_ ?_)
            · refine Eq.trans (q_aload_n dX11_make_72 rfl rfl) ?_
              refine Eq.trans (q_getf dX11_make_73 mx_fld_11_28 (gf_47_15 _)) ?_
              refine Eq.trans (q_iload dX11_make_76 rfl) ?_
              refine Eq.trans (q_ld (w := 0) (by decide) dX11_make_78 (al_54 _ _)) (q_ite ?_)
              refine Eq.trans (q_iload dX11_make_79 rfl) ?_
              refine Eq.trans (q_icmp_ne 100 dX11_make_81 rfl) (q_ite2 ?_ ?_)
              · refine Eq.trans (q_aload_n dX11_make_84 rfl rfl) ?_
                refine Eq.trans (q_getf dX11_make_85 mx_fld_11_31 (gf_47_16 _)) ?_
                refine Eq.trans (q_iload dX11_make_88 rfl) ?_
                refine Eq.trans (q_ld (w := 0) (by decide) dX11_make_90 (al_55 _ _)) (q_ite ?_)
                refine Eq.trans (q_iload dX11_make_91 rfl) ?_
                refine Eq.trans (q_icmp_ne 100 dX11_make_93 rfl) (q_ite2 ?_ ?_)
                · refine Eq.trans (q_iconst (x := 1) dX11_make_96 rfl) ?_
                  refine Eq.trans (q_goto 101 dX11_make_97 rfl) ?_
                  rfl
                · rfl
              · rfl
            · rfl
          · rfl
        · rfl
      · rfl
    · rfl
theorem e_X11_make_100 (v1 : Int32) (v2 : Int32) (v3 : Int32) (v4 : Int32) (v5 : Int32) (v6 : Int32) (v7 : Int32) (v8 : Int32) (v9 : Int32) (v10 : Value) (h : mx_H)  : mx_D (1, mm_X11_make, 100, [.ref 47, .int v1, .int v2, .int v3, .int v4, .int v5, .int v6, .int v7, .int v8, .int v9, v10], []) h = mx_D (1, mm_X11_make, 101, [.ref 47, .int v1, .int v2, .int v3, .int v4, .int v5, .int v6, .int v7, .int v8, .int v9, v10], [.int 0]) h := by
  refine Eq.trans (q_iconst (x := 0) dX11_make_100 rfl) ?_
  rfl
theorem e_X11_make_101 (v1 : Int32) (v2 : Int32) (v3 : Int32) (v4 : Int32) (v5 : Int32) (v6 : Int32) (v7 : Int32) (v8 : Int32) (v9 : Int32) (v10 : Value) (s0 : Int32) (h : mx_H)  : mx_D (1, mm_X11_make, 101, [.ref 47, .int v1, .int v2, .int v3, .int v4, .int v5, .int v6, .int v7, .int v8, .int v9, v10], [.int s0]) h = if s0 = 0 then mx_D (1, mm_X11_make, 115, [.ref 47, .int v1, .int v2, .int v3, .int v4, .int v5, .int v6, .int v7, .int v8, .int v9, .int s0], [.int v8]) h else (mx_D (1, mm_X11_make, 115, [.ref 47, .int v1, .int v2, .int v3, .int v4, .int v5, .int v6, .int v7, .int v8, .int v9, .int s0], [.int v9]) h) := by
  refine Eq.trans (q_istore (L' := [.ref 47, .int v1, .int v2, .int v3, .int v4, .int v5, .int v6, .int v7, .int v8, .int v9, .int s0]) dX11_make_101 (Nat.le_of_ble_eq_true rfl) rfl) ?_
  refine Eq.trans (q_iload dX11_make_103 rfl) ?_
  refine Eq.trans (q_if_eq 113 dX11_make_105 rfl) (q_ite2 ?_ ?_)
  · refine Eq.trans (q_iload dX11_make_113 rfl) ?_
    rfl
  · refine Eq.trans (q_iload dX11_make_108 rfl) ?_
    refine Eq.trans (q_goto 115 dX11_make_110 rfl) ?_
    rfl
theorem e_X11_make_115 (v1 : Int32) (v2 : Int32) (v3 : Int32) (v4 : Int32) (v5 : Int32) (v6 : Int32) (v7 : Int32) (v8 : Int32) (v9 : Int32) (v10 : Int32) (s0 : Int32) (h : mx_H)  : mx_D (1, mm_X11_make, 115, [.ref 47, .int v1, .int v2, .int v3, .int v4, .int v5, .int v6, .int v7, .int v8, .int v9, .int v10], [.int s0]) h = mx_D (1, mm_X11_make, 6, [.ref 47, .int v1, .int v2, .int v3, .int v4, .int v5, .int v6, .int v7, .int s0, .int (v9 + 1), .int v10], []) h := by
  refine Eq.trans (q_istore (L' := [.ref 47, .int v1, .int v2, .int v3, .int v4, .int v5, .int v6, .int v7, .int s0, .int v9, .int v10]) dX11_make_115 (Nat.le_of_ble_eq_true rfl) rfl) ?_
  refine Eq.trans (q_iinc (x' := 1) (L' := [.ref 47, .int v1, .int v2, .int v3, .int v4, .int v5, .int v6, .int v7, .int s0, .int (v9 + 1), .int v10]) dX11_make_117 rfl rfl rfl) ?_
  refine Eq.trans (q_goto 6 dX11_make_120 rfl) ?_
  rfl
theorem e_X11_atom_0  (h : mx_H)  : mx_D (2, mm_X11_atom, 0, [.ref 47, mx_junk, mx_junk, mx_junk, mx_junk], []) h = if (lg_cmp (h.2.1 47 5) 1702195828) = 0 then if (lg_cmp (h.2.1 47 6) 0) = 0 then (mx_C mm_X11_make [.ref 47, .int 1, .int 0, .int ((-1)), .int ((-1)), .int ((-1)), .int 0, .int 0] h).bind (fun o => mx_D (2, mm_X11_atom, 31, [.ref 47, mx_junk, mx_junk, mx_junk, mx_junk], o.1.toList ++ []) o.2) else (mx_D (2, mm_X11_atom, 32, [.ref 47, mx_junk, mx_junk, mx_junk, mx_junk], []) h) else (mx_D (2, mm_X11_atom, 32, [.ref 47, mx_junk, mx_junk, mx_junk, mx_junk], []) h) := by
  refine Eq.trans (q_aload_n dX11_atom_0 rfl rfl) ?_
  refine Eq.trans (q_getf dX11_atom_1 mx_fld_11_105 (gf_47_5 _)) ?_
  refine Eq.trans (q_ldc2 dX11_atom_4 mx_ldc2_11_199) ?_
  refine Eq.trans (q_lcmp dX11_atom_7) ?_
  refine Eq.trans (q_if_ne 32 dX11_atom_8 rfl) (q_ite2 ?_ ?_)
  · refine Eq.trans (q_aload_n dX11_atom_11 rfl rfl) ?_
    refine Eq.trans (q_getf dX11_atom_12 mx_fld_11_109 (gf_47_6 _)) ?_
    refine Eq.trans (q_lconst (x := 0) dX11_atom_15 rfl) ?_
    refine Eq.trans (q_lcmp dX11_atom_16) ?_
    refine Eq.trans (q_if_ne 32 dX11_atom_17 rfl) (q_ite2 ?_ ?_)
    · refine Eq.trans (q_aload_n dX11_atom_20 rfl rfl) ?_
      refine Eq.trans (q_iconst (x := 1) dX11_atom_21 rfl) ?_
      refine Eq.trans (q_iconst (x := 0) dX11_atom_22 rfl) ?_
      refine Eq.trans (q_iconst (x := (-1)) dX11_atom_23 rfl) ?_
      refine Eq.trans (q_iconst (x := (-1)) dX11_atom_24 rfl) ?_
      refine Eq.trans (q_iconst (x := (-1)) dX11_atom_25 rfl) ?_
      refine Eq.trans (q_iconst (x := 0) dX11_atom_26 rfl) ?_
      refine Eq.trans (q_iconst (x := 0) dX11_atom_27 rfl) ?_
      exact q_call0 (as := [.int 1, .int 0, .int ((-1)), .int ((-1)), .int ((-1)), .int 0, .int 0]) (rest := []) dX11_atom_28 mx_inv_11_222 rfl rfl rfl ⟨Nat.le_of_ble_eq_true rfl, Nat.le_of_ble_eq_true rfl, (Nat.le_of_ble_eq_true rfl)⟩
    · rfl
  · rfl
theorem c_X11_atom  (h : mx_H) : mx_C mm_X11_atom [.ref 47] h = mx_D (2, mm_X11_atom, 0, [.ref 47, mx_junk, mx_junk, mx_junk, mx_junk], []) h := rfl
theorem e_X11_atom_31 (s0 : Int32) (h : mx_H)  : mx_D (2, mm_X11_atom, 31, [.ref 47, mx_junk, mx_junk, mx_junk, mx_junk], [.int s0]) h = some (some (.int s0), h) := by
  exact q_retI dX11_atom_31 rfl
theorem e_X11_atom_32  (h : mx_H)  : mx_D (2, mm_X11_atom, 32, [.ref 47, mx_junk, mx_junk, mx_junk, mx_junk], []) h = if (lg_cmp (h.2.1 47 5) 435728179558) = 0 then if (lg_cmp (h.2.1 47 6) 0) = 0 then (mx_C mm_X11_make [.ref 47, .int 2, .int 0, .int ((-1)), .int ((-1)), .int ((-1)), .int 0, .int 0] h).bind (fun o => mx_D (2, mm_X11_atom, 63, [.ref 47, mx_junk, mx_junk, mx_junk, mx_junk], o.1.toList ++ []) o.2) else (mx_D (2, mm_X11_atom, 64, [.ref 47, mx_junk, mx_junk, mx_junk, mx_junk], []) h) else (mx_D (2, mm_X11_atom, 64, [.ref 47, mx_junk, mx_junk, mx_junk, mx_junk], []) h) := by
  refine Eq.trans (q_aload_n dX11_atom_32 rfl rfl) ?_
  refine Eq.trans (q_getf dX11_atom_33 mx_fld_11_105 (gf_47_5 _)) ?_
  refine Eq.trans (q_ldc2 dX11_atom_36 mx_ldc2_11_226) ?_
  refine Eq.trans (q_lcmp dX11_atom_39) ?_
  refine Eq.trans (q_if_ne 64 dX11_atom_40 rfl) (q_ite2 ?_ ?_)
  · refine Eq.trans (q_aload_n dX11_atom_43 rfl rfl) ?_
    refine Eq.trans (q_getf dX11_atom_44 mx_fld_11_109 (gf_47_6 _)) ?_
    refine Eq.trans (q_lconst (x := 0) dX11_atom_47 rfl) ?_
    refine Eq.trans (q_lcmp dX11_atom_48) ?_
    refine Eq.trans (q_if_ne 64 dX11_atom_49 rfl) (q_ite2 ?_ ?_)
    · refine Eq.trans (q_aload_n dX11_atom_52 rfl rfl) ?_
      refine Eq.trans (q_iconst (x := 2) dX11_atom_53 rfl) ?_
      refine Eq.trans (q_iconst (x := 0) dX11_atom_54 rfl) ?_
      refine Eq.trans (q_iconst (x := (-1)) dX11_atom_55 rfl) ?_
      refine Eq.trans (q_iconst (x := (-1)) dX11_atom_56 rfl) ?_
      refine Eq.trans (q_iconst (x := (-1)) dX11_atom_57 rfl) ?_
      refine Eq.trans (q_iconst (x := 0) dX11_atom_58 rfl) ?_
      refine Eq.trans (q_iconst (x := 0) dX11_atom_59 rfl) ?_
      exact q_call0 (as := [.int 2, .int 0, .int ((-1)), .int ((-1)), .int ((-1)), .int 0, .int 0]) (rest := []) dX11_atom_60 mx_inv_11_222 rfl rfl rfl ⟨Nat.le_of_ble_eq_true rfl, Nat.le_of_ble_eq_true rfl, (Nat.le_of_ble_eq_true rfl)⟩
    · rfl
  · rfl
theorem e_X11_atom_63 (s0 : Int32) (h : mx_H)  : mx_D (2, mm_X11_atom, 63, [.ref 47, mx_junk, mx_junk, mx_junk, mx_junk], [.int s0]) h = some (some (.int s0), h) := by
  exact q_retI dX11_atom_63 rfl
theorem e_X11_atom_64  (h : mx_H)  : mx_D (2, mm_X11_atom, 64, [.ref 47, mx_junk, mx_junk, mx_junk, mx_junk], []) h = if ((h.1 47 4) - (h.1 47 3)) ≤ 2 then mx_D (2, mm_X11_atom, 208, [.ref 47, .int ((h.1 47 4) - (h.1 47 3)), mx_junk, mx_junk, mx_junk], []) h else (if 7 ≤ ((h.1 47 4) - (h.1 47 3)) then mx_D (2, mm_X11_atom, 208, [.ref 47, .int ((h.1 47 4) - (h.1 47 3)), mx_junk, mx_junk, mx_junk], []) h else (if mx_in (h.1 47 3) 120 = true then if (h.1 48 ((h.1 47 3).toNatClampNeg)) = 35 then if mx_in ((h.1 47 3) + 1) 120 = true then if (h.1 48 (((h.1 47 3) + 1).toNatClampNeg)) = 98 then mx_D (2, mm_X11_atom, 127, [.ref 47, .int ((h.1 47 4) - (h.1 47 3)), .int 0, .int 1, .int ((h.1 47 3) + 2)], []) h else (mx_D (2, mm_X11_atom, 208, [.ref 47, .int ((h.1 47 4) - (h.1 47 3)), mx_junk, mx_junk, mx_junk], []) h) else none else (mx_D (2, mm_X11_atom, 208, [.ref 47, .int ((h.1 47 4) - (h.1 47 3)), mx_junk, mx_junk, mx_junk], []) h) else none)) := by
  refine Eq.trans (q_aload_n dX11_atom_64 rfl rfl) ?_
  refine Eq.trans (q_getf dX11_atom_65 mx_fld_11_99 (gf_47_4 _)) ?_
  refine Eq.trans (q_aload_n dX11_atom_68 rfl rfl) ?_
  refine Eq.trans (q_getf dX11_atom_69 mx_fld_11_102 (gf_47_3 _)) ?_
  refine Eq.trans (q_isub dX11_atom_72) ?_
  refine Eq.trans (q_istore_n (L' := [.ref 47, .int ((h.1 47 4) - (h.1 47 3)), mx_junk, mx_junk, mx_junk]) dX11_atom_73 (Nat.le_of_ble_eq_true rfl) rfl) ?_
  refine Eq.trans (q_iload_n dX11_atom_74 rfl) ?_
  refine Eq.trans (q_iconst (x := 2) dX11_atom_75 rfl) ?_
  refine Eq.trans (q_icmp_le 208 dX11_atom_76 rfl) (q_ite2 ?_ ?_)
  · rfl
  · refine Eq.trans (q_iload_n dX11_atom_79 rfl) ?_
    refine Eq.trans (q_bipush (x := 7) dX11_atom_80 rfl) ?_
    refine Eq.trans (q_icmp_ge 208 dX11_atom_82 rfl) (q_ite2 ?_ ?_)
    · rfl
    · refine Eq.trans (q_aload_n dX11_atom_85 rfl rfl) ?_
      refine Eq.trans (q_getf dX11_atom_86 mx_fld_11_7 (gf_47_0 _)) ?_
      refine Eq.trans (q_aload_n dX11_atom_89 rfl rfl) ?_
      refine Eq.trans (q_getf dX11_atom_90 mx_fld_11_102 (gf_47_3 _)) ?_
      refine Eq.trans (q_ld (w := 0) (by decide) dX11_atom_93 (al_48 _ _)) (q_ite ?_)
      refine Eq.trans (q_bipush (x := 35) dX11_atom_94 rfl) ?_
      refine Eq.trans (q_icmp_ne 208 dX11_atom_96 rfl) (q_ite2 ?_ ?_)
      · refine Eq.trans (q_aload_n dX11_atom_99 rfl rfl) ?_
        refine Eq.trans (q_getf dX11_atom_100 mx_fld_11_7 (gf_47_0 _)) ?_
        refine Eq.trans (q_aload_n dX11_atom_103 rfl rfl) ?_
        refine Eq.trans (q_getf dX11_atom_104 mx_fld_11_102 (gf_47_3 _)) ?_
        refine Eq.trans (q_iconst (x := 1) dX11_atom_107 rfl) ?_
        refine Eq.trans (q_iadd dX11_atom_108) ?_
        refine Eq.trans (q_ld (w := 0) (by decide) dX11_atom_109 (al_48 _ _)) (q_ite ?_)
        refine Eq.trans (q_bipush (x := 98) dX11_atom_110 rfl) ?_
        refine Eq.trans (q_icmp_ne 208 dX11_atom_112 rfl) (q_ite2 ?_ ?_)
        · refine Eq.trans (q_iconst (x := 0) dX11_atom_115 rfl) ?_
          refine Eq.trans (q_istore_n (L' := [.ref 47, .int ((h.1 47 4) - (h.1 47 3)), .int 0, mx_junk, mx_junk]) dX11_atom_116 (Nat.le_of_ble_eq_true rfl) rfl) ?_
          refine Eq.trans (q_iconst (x := 1) dX11_atom_117 rfl) ?_
          refine Eq.trans (q_istore_n (L' := [.ref 47, .int ((h.1 47 4) - (h.1 47 3)), .int 0, .int 1, mx_junk]) dX11_atom_118 (Nat.le_of_ble_eq_true rfl) rfl) ?_
          refine Eq.trans (q_aload_n dX11_atom_119 rfl rfl) ?_
          refine Eq.trans (q_getf dX11_atom_120 mx_fld_11_102 (gf_47_3 _)) ?_
          refine Eq.trans (q_iconst (x := 2) dX11_atom_123 rfl) ?_
          refine Eq.trans (q_iadd dX11_atom_124) ?_
          refine Eq.trans (q_istore (L' := [.ref 47, .int ((h.1 47 4) - (h.1 47 3)), .int 0, .int 1, .int ((h.1 47 3) + 2)]) dX11_atom_125 (Nat.le_of_ble_eq_true rfl) rfl) ?_
          rfl
        · rfl
      · rfl
theorem e_X11_atom_127 (v1 : Int32) (v2 : Int32) (v3 : Int32) (v4 : Int32) (h : mx_H)  : mx_D (2, mm_X11_atom, 127, [.ref 47, .int v1, .int v2, .int v3, .int v4], []) h = if (h.1 47 4) ≤ v4 then if v3 = 0 then mx_D (2, mm_X11_atom, 207, [.ref 47, .int v1, .int v2, .int v3, .int v4], [.int ((-1))]) h else ((mx_C mm_X11_make [.ref 47, .int 3, .int (v1 - 2), .int ((-1)), .int ((-1)), .int ((-1)), .int (v1 - 2), .int v2] h).bind (fun o => mx_D (2, mm_X11_atom, 203, [.ref 47, .int v1, .int v2, .int v3, .int v4], o.1.toList ++ []) o.2)) else (if v3 = 0 then mx_D (2, mm_X11_atom, 161, [.ref 47, .int v1, .int v2, .int v3, .int v4], []) h else (if mx_in v4 120 = true then (mx_C mm_X11_in [.int (h.1 48 v4.toNatClampNeg), .int 48, .int 49] h).bind (fun o => mx_D (2, mm_X11_atom, 154, [.ref 47, .int v1, .int v2, .int v3, .int v4], o.1.toList ++ []) o.2) else none)) := by
  refine Eq.trans (q_iload dX11_atom_127 rfl) ?_
  refine Eq.trans (q_aload_n dX11_atom_129 rfl rfl) ?_
  refine Eq.trans (q_getf dX11_atom_130 mx_fld_11_99 (gf_47_4 _)) ?_
  refine Eq.trans (q_icmp_ge 184 dX11_atom_133 rfl) (q_ite2 ?_ ?_)
  · refine Eq.trans (q_iload_n dX11_atom_184 rfl) ?_
    refine Eq.trans (q_if_eq 206 dX11_atom_185 rfl) (q_ite2 ?_ ?_)
    · refine Eq.trans (q_iconst (x := (-1)) dX11_atom_206 rfl) ?_
      rfl
    · refine Eq.trans (q_aload_n dX11_atom_188 rfl rfl) ?_
      refine Eq.trans (q_iconst (x := 3) dX11_atom_189 rfl) ?_
      refine Eq.trans (q_iload_n dX11_atom_190 rfl) ?_
      refine Eq.trans (q_iconst (x := 2) dX11_atom_191 rfl) ?_
      refine Eq.trans (q_isub dX11_atom_192) ?_
      refine Eq.trans (q_iconst (x := (-1)) dX11_atom_193 rfl) ?_
      refine Eq.trans (q_iconst (x := (-1)) dX11_atom_194 rfl) ?_
      refine Eq.trans (q_iconst (x := (-1)) dX11_atom_195 rfl) ?_
      refine Eq.trans (q_iload_n dX11_atom_196 rfl) ?_
      refine Eq.trans (q_iconst (x := 2) dX11_atom_197 rfl) ?_
      refine Eq.trans (q_isub dX11_atom_198) ?_
      refine Eq.trans (q_iload_n dX11_atom_199 rfl) ?_
      exact q_call0 (as := [.int 3, .int (v1 - 2), .int ((-1)), .int ((-1)), .int ((-1)), .int (v1 - 2), .int v2]) (rest := []) dX11_atom_200 mx_inv_11_222 rfl rfl rfl ⟨Nat.le_of_ble_eq_true rfl, Nat.le_of_ble_eq_true rfl, (Nat.le_of_ble_eq_true rfl)⟩
  · refine Eq.trans (q_iload_n dX11_atom_136 rfl) ?_
    refine Eq.trans (q_if_eq 161 dX11_atom_137 rfl) (q_ite2 ?_ ?_)
    · rfl
    · refine Eq.trans (q_aload_n dX11_atom_140 rfl rfl) ?_
      refine Eq.trans (q_getf dX11_atom_141 mx_fld_11_7 (gf_47_0 _)) ?_
      refine Eq.trans (q_iload dX11_atom_144 rfl) ?_
      refine Eq.trans (q_ld (w := 0) (by decide) dX11_atom_146 (al_48 _ _)) (q_ite ?_)
      refine Eq.trans (q_bipush (x := 48) dX11_atom_147 rfl) ?_
      refine Eq.trans (q_bipush (x := 49) dX11_atom_149 rfl) ?_
      exact q_call1 (as := [.int (h.1 48 v4.toNatClampNeg), .int 48, .int 49]) (rest := []) dX11_atom_151 mx_inv_11_84 rfl rfl ⟨Nat.le_of_ble_eq_true rfl, Nat.le_of_ble_eq_true rfl, (Nat.le_of_ble_eq_true rfl)⟩
theorem e_X11_atom_154 (v1 : Int32) (v2 : Int32) (v3 : Int32) (v4 : Int32) (s0 : Int32) (h : mx_H)  : mx_D (2, mm_X11_atom, 154, [.ref 47, .int v1, .int v2, .int v3, .int v4], [.int s0]) h = if s0 = 0 then mx_D (2, mm_X11_atom, 161, [.ref 47, .int v1, .int v2, .int v3, .int v4], []) h else (mx_D (2, mm_X11_atom, 162, [.ref 47, .int v1, .int v2, .int v3, .int v4], [.int 1]) h) := by
  refine Eq.trans (q_if_eq 161 dX11_atom_154 rfl) (q_ite2 ?_ ?_)
  · rfl
  · refine Eq.trans (q_iconst (x := 1) dX11_atom_157 rfl) ?_
    refine Eq.trans (q_goto 162 dX11_atom_158 rfl) ?_
    rfl
theorem e_X11_atom_161 (v1 : Int32) (v2 : Int32) (v3 : Int32) (v4 : Int32) (h : mx_H)  : mx_D (2, mm_X11_atom, 161, [.ref 47, .int v1, .int v2, .int v3, .int v4], []) h = mx_D (2, mm_X11_atom, 162, [.ref 47, .int v1, .int v2, .int v3, .int v4], [.int 0]) h := by
  refine Eq.trans (q_iconst (x := 0) dX11_atom_161 rfl) ?_
  rfl
theorem e_X11_atom_162 (v1 : Int32) (v2 : Int32) (v3 : Int32) (v4 : Int32) (s0 : Int32) (h : mx_H)  : mx_D (2, mm_X11_atom, 162, [.ref 47, .int v1, .int v2, .int v3, .int v4], [.int s0]) h = if mx_in v4 120 = true then mx_D (2, mm_X11_atom, 127, [.ref 47, .int v1, .int (((2 * v2) + (h.1 48 v4.toNatClampNeg)) - 48), .int s0, .int (v4 + 1)], []) h else none := by
  refine Eq.trans (q_istore_n (L' := [.ref 47, .int v1, .int v2, .int s0, .int v4]) dX11_atom_162 (Nat.le_of_ble_eq_true rfl) rfl) ?_
  refine Eq.trans (q_iconst (x := 2) dX11_atom_163 rfl) ?_
  refine Eq.trans (q_iload_n dX11_atom_164 rfl) ?_
  refine Eq.trans (q_imul dX11_atom_165) ?_
  refine Eq.trans (q_aload_n dX11_atom_166 rfl rfl) ?_
  refine Eq.trans (q_getf dX11_atom_167 mx_fld_11_7 (gf_47_0 _)) ?_
  refine Eq.trans (q_iload dX11_atom_170 rfl) ?_
  refine Eq.trans (q_ld (w := 0) (by decide) dX11_atom_172 (al_48 _ _)) (q_ite ?_)
  refine Eq.trans (q_iadd dX11_atom_173) ?_
  refine Eq.trans (q_bipush (x := 48) dX11_atom_174 rfl) ?_
  refine Eq.trans (q_isub dX11_atom_176) ?_
  refine Eq.trans (q_istore_n (L' := [.ref 47, .int v1, .int (((2 * v2) + (h.1 48 v4.toNatClampNeg)) - 48), .int s0, .int v4]) dX11_atom_177 (Nat.le_of_ble_eq_true rfl) rfl) ?_
  refine Eq.trans (q_iinc (x' := 1) (L' := [.ref 47, .int v1, .int (((2 * v2) + (h.1 48 v4.toNatClampNeg)) - 48), .int s0, .int (v4 + 1)]) dX11_atom_178 rfl rfl rfl) ?_
  refine Eq.trans (q_goto 127 dX11_atom_181 rfl) ?_
  rfl
theorem e_X11_atom_203 (v1 : Int32) (v2 : Int32) (v3 : Int32) (v4 : Int32) (s0 : Int32) (h : mx_H)  : mx_D (2, mm_X11_atom, 203, [.ref 47, .int v1, .int v2, .int v3, .int v4], [.int s0]) h = mx_D (2, mm_X11_atom, 207, [.ref 47, .int v1, .int v2, .int v3, .int v4], [.int s0]) h := by
  refine Eq.trans (q_goto 207 dX11_atom_203 rfl) ?_
  rfl
theorem e_X11_atom_207 (v1 : Int32) (v2 : Int32) (v3 : Int32) (v4 : Int32) (s0 : Int32) (h : mx_H)  : mx_D (2, mm_X11_atom, 207, [.ref 47, .int v1, .int v2, .int v3, .int v4], [.int s0]) h = some (some (.int s0), h) := by
  exact q_retI dX11_atom_207 rfl
theorem e_X11_atom_208 (v1 : Int32) (h : mx_H)  : mx_D (2, mm_X11_atom, 208, [.ref 47, .int v1, mx_junk, mx_junk, mx_junk], []) h = mx_D (2, mm_X11_atom, 212, [.ref 47, .int v1, .int ((-1)), .int 0, mx_junk], []) h := by
  refine Eq.trans (q_iconst (x := (-1)) dX11_atom_208 rfl) ?_
  refine Eq.trans (q_istore_n (L' := [.ref 47, .int v1, .int ((-1)), mx_junk, mx_junk]) dX11_atom_209 (Nat.le_of_ble_eq_true rfl) rfl) ?_
  refine Eq.trans (q_iconst (x := 0) dX11_atom_210 rfl) ?_
  refine Eq.trans (q_istore_n (L' := [.ref 47, .int v1, .int ((-1)), .int 0, mx_junk]) dX11_atom_211 (Nat.le_of_ble_eq_true rfl) rfl) ?_
  rfl
theorem e_X11_atom_212 (v1 : Int32) (v2 : Int32) (v3 : Int32) (h : mx_H)  : mx_D (2, mm_X11_atom, 212, [.ref 47, .int v1, .int v2, .int v3, mx_junk], []) h = if (h.1 47 28) ≤ v3 then mx_D (2, mm_X11_atom, 262, [.ref 47, .int v1, .int v2, .int 0, mx_junk], []) h else (if mx_in v3 12 = true then if (lg_cmp (h.2.1 63 v3.toNatClampNeg) (h.2.1 47 5)) = 0 then if (lg_cmp (h.2.1 47 6) 0) = 0 then if mx_in v3 12 = true then mx_D (2, mm_X11_atom, 253, [.ref 47, .int v1, .int v2, .int v3, mx_junk], [.int (h.1 64 v3.toNatClampNeg)]) h else none else (mx_D (2, mm_X11_atom, 252, [.ref 47, .int v1, .int v2, .int v3, mx_junk], []) h) else (mx_D (2, mm_X11_atom, 252, [.ref 47, .int v1, .int v2, .int v3, mx_junk], []) h) else none) := by
  refine Eq.trans (q_iload_n dX11_atom_212 rfl) ?_
  refine Eq.trans (q_aload_n dX11_atom_213 rfl rfl) ?_
  refine Eq.trans (q_getf dX11_atom_214 mx_fld_11_228 (gf_47_28 _)) ?_
  refine Eq.trans (q_icmp_ge 260 dX11_atom_217 rfl) (q_ite2 ?_ ?_)
  · refine Eq.trans (q_iconst (x := 0) dX11_atom_260 rfl) ?_
    refine Eq.trans (q_istore_n (L' := [.ref 47, .int v1, .int v2, .int 0, mx_junk]) dX11_atom_261 (Nat.le_of_ble_eq_true rfl) rfl) ?_
    rfl
  · refine Eq.trans (q_aload_n dX11_atom_220 rfl rfl) ?_
    refine Eq.trans (q_getf dX11_atom_221 mx_fld_11_56 (gf_47_29 _)) ?_
    refine Eq.trans (q_iload_n dX11_atom_224 rfl) ?_
    refine Eq.trans (q_ld (w := 3) (by decide) dX11_atom_225 (al_63 _ _)) (q_ite ?_)
    refine Eq.trans (q_aload_n dX11_atom_226 rfl rfl) ?_
    refine Eq.trans (q_getf dX11_atom_227 mx_fld_11_105 (gf_47_5 _)) ?_
    refine Eq.trans (q_lcmp dX11_atom_230) ?_
    refine Eq.trans (q_if_ne 252 dX11_atom_231 rfl) (q_ite2 ?_ ?_)
    · refine Eq.trans (q_aload_n dX11_atom_234 rfl rfl) ?_
      refine Eq.trans (q_getf dX11_atom_235 mx_fld_11_109 (gf_47_6 _)) ?_
      refine Eq.trans (q_lconst (x := 0) dX11_atom_238 rfl) ?_
      refine Eq.trans (q_lcmp dX11_atom_239) ?_
      refine Eq.trans (q_if_ne 252 dX11_atom_240 rfl) (q_ite2 ?_ ?_)
      · refine Eq.trans (q_aload_n dX11_atom_243 rfl rfl) ?_
        refine Eq.trans (q_getf dX11_atom_244 mx_fld_11_59 (gf_47_30 _)) ?_
        refine Eq.trans (q_iload_n dX11_atom_247 rfl) ?_
        refine Eq.trans (q_ld (w := 0) (by decide) dX11_atom_248 (al_64 _ _)) (q_ite ?_)
        refine Eq.trans (q_goto 253 dX11_atom_249 rfl) ?_
        rfl
      · rfl
    · rfl
theorem e_X11_atom_252 (v1 : Int32) (v2 : Int32) (v3 : Int32) (h : mx_H)  : mx_D (2, mm_X11_atom, 252, [.ref 47, .int v1, .int v2, .int v3, mx_junk], []) h = mx_D (2, mm_X11_atom, 253, [.ref 47, .int v1, .int v2, .int v3, mx_junk], [.int v2]) h := by
  refine Eq.trans (q_iload_n dX11_atom_252 rfl) ?_
  rfl
theorem e_X11_atom_253 (v1 : Int32) (v2 : Int32) (v3 : Int32) (s0 : Int32) (h : mx_H)  : mx_D (2, mm_X11_atom, 253, [.ref 47, .int v1, .int v2, .int v3, mx_junk], [.int s0]) h = mx_D (2, mm_X11_atom, 212, [.ref 47, .int v1, .int s0, .int (v3 + 1), mx_junk], []) h := by
  refine Eq.trans (q_istore_n (L' := [.ref 47, .int v1, .int s0, .int v3, mx_junk]) dX11_atom_253 (Nat.le_of_ble_eq_true rfl) rfl) ?_
  refine Eq.trans (q_iinc (x' := 1) (L' := [.ref 47, .int v1, .int s0, .int (v3 + 1), mx_junk]) dX11_atom_254 rfl rfl rfl) ?_
  refine Eq.trans (q_goto 212 dX11_atom_257 rfl) ?_
  rfl
theorem e_X11_atom_262 (v1 : Int32) (v2 : Int32) (v3 : Int32) (h : mx_H)  : mx_D (2, mm_X11_atom, 262, [.ref 47, .int v1, .int v2, .int v3, mx_junk], []) h = if (h.1 47 18) ≤ v3 then some (some (.int v2), h) else (if mx_in v3 12 = true then if (h.1 56 v3.toNatClampNeg) = 35 then if mx_in v3 12 = true then if (h.1 58 v3.toNatClampNeg) = 1 then if mx_in v3 12 = true then if (lg_cmp (h.2.1 62 v3.toNatClampNeg) (h.2.1 47 5)) = 0 then if (lg_cmp (h.2.1 47 6) 0) = 0 then if mx_in (3 * v3) 36 = true then mx_D (2, mm_X11_atom, 326, [.ref 47, .int v1, .int v2, .int v3, mx_junk], [.int (h.1 59 ((3 * v3).toNatClampNeg))]) h else none else (mx_D (2, mm_X11_atom, 325, [.ref 47, .int v1, .int v2, .int v3, mx_junk], []) h) else (mx_D (2, mm_X11_atom, 325, [.ref 47, .int v1, .int v2, .int v3, mx_junk], []) h) else none else (mx_D (2, mm_X11_atom, 325, [.ref 47, .int v1, .int v2, .int v3, mx_junk], []) h) else none else (mx_D (2, mm_X11_atom, 325, [.ref 47, .int v1, .int v2, .int v3, mx_junk], []) h) else none) := by
  refine Eq.trans (q_iload_n dX11_atom_262 rfl) ?_
  refine Eq.trans (q_aload_n dX11_atom_263 rfl rfl) ?_
  refine Eq.trans (q_getf dX11_atom_264 mx_fld_11_231 (gf_47_18 _)) ?_
  refine Eq.trans (q_icmp_ge 333 dX11_atom_267 rfl) (q_ite2 ?_ ?_)
  · refine Eq.trans (q_iload_n dX11_atom_333 rfl) ?_
    exact q_retI dX11_atom_334 rfl
  · refine Eq.trans (q_aload_n dX11_atom_270 rfl rfl) ?_
    refine Eq.trans (q_getf dX11_atom_271 mx_fld_11_34 (gf_47_19 _)) ?_
    refine Eq.trans (q_iload_n dX11_atom_274 rfl) ?_
    refine Eq.trans (q_ld (w := 0) (by decide) dX11_atom_275 (al_56 _ _)) (q_ite ?_)
    refine Eq.trans (q_bipush (x := 35) dX11_atom_276 rfl) ?_
    refine Eq.trans (q_icmp_ne 325 dX11_atom_278 rfl) (q_ite2 ?_ ?_)
    · refine Eq.trans (q_aload_n dX11_atom_281 rfl rfl) ?_
      refine Eq.trans (q_getf dX11_atom_282 mx_fld_11_40 (gf_47_21 _)) ?_
      refine Eq.trans (q_iload_n dX11_atom_285 rfl) ?_
      refine Eq.trans (q_ld (w := 0) (by decide) dX11_atom_286 (al_58 _ _)) (q_ite ?_)
      refine Eq.trans (q_iconst (x := 1) dX11_atom_287 rfl) ?_
      refine Eq.trans (q_icmp_ne 325 dX11_atom_288 rfl) (q_ite2 ?_ ?_)
      · refine Eq.trans (q_aload_n dX11_atom_291 rfl rfl) ?_
        refine Eq.trans (q_getf dX11_atom_292 mx_fld_11_52 (gf_47_25 _)) ?_
        refine Eq.trans (q_iload_n dX11_atom_295 rfl) ?_
        refine Eq.trans (q_ld (w := 3) (by decide) dX11_atom_296 (al_62 _ _)) (q_ite ?_)
        refine Eq.trans (q_aload_n dX11_atom_297 rfl rfl) ?_
        refine Eq.trans (q_getf dX11_atom_298 mx_fld_11_105 (gf_47_5 _)) ?_
        refine Eq.trans (q_lcmp dX11_atom_301) ?_
        refine Eq.trans (q_if_ne 325 dX11_atom_302 rfl) (q_ite2 ?_ ?_)
        · refine Eq.trans (q_aload_n dX11_atom_305 rfl rfl) ?_
          refine Eq.trans (q_getf dX11_atom_306 mx_fld_11_109 (gf_47_6 _)) ?_
          refine Eq.trans (q_lconst (x := 0) dX11_atom_309 rfl) ?_
          refine Eq.trans (q_lcmp dX11_atom_310) ?_
          refine Eq.trans (q_if_ne 325 dX11_atom_311 rfl) (q_ite2 ?_ ?_)
          · refine Eq.trans (q_aload_n dX11_atom_314 rfl rfl) ?_
            refine Eq.trans (q_getf dX11_atom_315 mx_fld_11_43 (gf_47_22 _)) ?_
            refine Eq.trans (q_iconst (x := 3) dX11_atom_318 rfl) ?_
            refine Eq.trans (q_iload_n dX11_atom_319 rfl) ?_
            refine Eq.trans (q_imul dX11_atom_320) ?_
            refine Eq.trans (q_ld (w := 0) (by decide) dX11_atom_321 (al_59 _ _)) (q_ite ?_)
            refine Eq.trans (q_goto 326 dX11_atom_322 rfl) ?_
            rfl
          · rfl
        · rfl
      · rfl
    · rfl
theorem e_X11_atom_325 (v1 : Int32) (v2 : Int32) (v3 : Int32) (h : mx_H)  : mx_D (2, mm_X11_atom, 325, [.ref 47, .int v1, .int v2, .int v3, mx_junk], []) h = mx_D (2, mm_X11_atom, 326, [.ref 47, .int v1, .int v2, .int v3, mx_junk], [.int v2]) h := by
  refine Eq.trans (q_iload_n dX11_atom_325 rfl) ?_
  rfl
theorem e_X11_atom_326 (v1 : Int32) (v2 : Int32) (v3 : Int32) (s0 : Int32) (h : mx_H)  : mx_D (2, mm_X11_atom, 326, [.ref 47, .int v1, .int v2, .int v3, mx_junk], [.int s0]) h = mx_D (2, mm_X11_atom, 262, [.ref 47, .int v1, .int s0, .int (v3 + 1), mx_junk], []) h := by
  refine Eq.trans (q_istore_n (L' := [.ref 47, .int v1, .int s0, .int v3, mx_junk]) dX11_atom_326 (Nat.le_of_ble_eq_true rfl) rfl) ?_
  refine Eq.trans (q_iinc (x' := 1) (L' := [.ref 47, .int v1, .int s0, .int (v3 + 1), mx_junk]) dX11_atom_327 rfl rfl rfl) ?_
  refine Eq.trans (q_goto 262 dX11_atom_330 rfl) ?_
  rfl
theorem e_X11_push_0 (v1 : Int32) (v2 : Int32) (h : mx_H)  : mx_D (1, mm_X11_push, 0, [.ref 47, .int v1, .int v2], []) h = if mx_in (h.1 47 18) 12 = true then if mx_in ((mx_u h.1 56 ((h.1 47 18).toNatClampNeg) v1) 47 18) 12 = true then if mx_in ((mx_u (mx_u h.1 56 ((h.1 47 18).toNatClampNeg) v1) 57 (((mx_u h.1 56 ((h.1 47 18).toNatClampNeg) v1) 47 18).toNatClampNeg) v2) 47 18) 12 = true then some (none, ((mx_u (mx_u (mx_u (mx_u h.1 56 ((h.1 47 18).toNatClampNeg) v1) 57 (((mx_u h.1 56 ((h.1 47 18).toNatClampNeg) v1) 47 18).toNatClampNeg) v2) 58 (((mx_u (mx_u h.1 56 ((h.1 47 18).toNatClampNeg) v1) 57 (((mx_u h.1 56 ((h.1 47 18).toNatClampNeg) v1) 47 18).toNatClampNeg) v2) 47 18).toNatClampNeg) 0) 47 18 (((mx_u (mx_u (mx_u h.1 56 ((h.1 47 18).toNatClampNeg) v1) 57 (((mx_u h.1 56 ((h.1 47 18).toNatClampNeg) v1) 47 18).toNatClampNeg) v2) 58 (((mx_u (mx_u h.1 56 ((h.1 47 18).toNatClampNeg) v1) 57 (((mx_u h.1 56 ((h.1 47 18).toNatClampNeg) v1) 47 18).toNatClampNeg) v2) 47 18).toNatClampNeg) 0) 47 18) + 1)), h.2.1, h.2.2)) else none else none else none := by
  refine Eq.trans (q_aload_n dX11_push_0 rfl rfl) ?_
  refine Eq.trans (q_getf dX11_push_1 mx_fld_11_34 (gf_47_19 _)) ?_
  refine Eq.trans (q_aload_n dX11_push_4 rfl rfl) ?_
  refine Eq.trans (q_getf dX11_push_5 mx_fld_11_231 (gf_47_18 _)) ?_
  refine Eq.trans (q_iload_n dX11_push_8 rfl) ?_
  refine Eq.trans (q_st (w := 0) (by decide) dX11_push_9 (as_56 _ _ _)) (q_ite ?_)
  refine Eq.trans (q_aload_n dX11_push_10 rfl rfl) ?_
  refine Eq.trans (q_getf dX11_push_11 mx_fld_11_37 (gf_47_20 _)) ?_
  refine Eq.trans (q_aload_n dX11_push_14 rfl rfl) ?_
  refine Eq.trans (q_getf dX11_push_15 mx_fld_11_231 (gf_47_18 _)) ?_
  refine Eq.trans (q_iload_n dX11_push_18 rfl) ?_
  refine Eq.trans (q_st (w := 0) (by decide) dX11_push_19 (as_57 _ _ _)) (q_ite ?_)
  refine Eq.trans (q_aload_n dX11_push_20 rfl rfl) ?_
  refine Eq.trans (q_getf dX11_push_21 mx_fld_11_40 (gf_47_21 _)) ?_
  refine Eq.trans (q_aload_n dX11_push_24 rfl rfl) ?_
  refine Eq.trans (q_getf dX11_push_25 mx_fld_11_231 (gf_47_18 _)) ?_
  refine Eq.trans (q_iconst (x := 0) dX11_push_28 rfl) ?_
  refine Eq.trans (q_st (w := 0) (by decide) dX11_push_29 (as_58 _ _ _)) (q_ite ?_)
  refine Eq.trans (q_aload_n dX11_push_30 rfl rfl) ?_
  refine Eq.trans (q_aload_n dX11_push_31 rfl rfl) ?_
  refine Eq.trans (q_getf dX11_push_32 mx_fld_11_231 (gf_47_18 _)) ?_
  refine Eq.trans (q_iconst (x := 1) dX11_push_35 rfl) ?_
  refine Eq.trans (q_iadd dX11_push_36) ?_
  refine Eq.trans (q_putf dX11_push_37 mx_fld_11_231 (pf_47_18 _ _)) ?_
  exact q_retV dX11_push_40 rfl
theorem c_X11_push (v1 : Int32) (v2 : Int32) (h : mx_H) : mx_C mm_X11_push [.ref 47, .int v1, .int v2] h = mx_D (1, mm_X11_push, 0, [.ref 47, .int v1, .int v2], []) h := rfl
theorem e_X11_readHead_0 (v1 : Int32) (h : mx_H)  : mx_D (8, mm_X11_readHead, 0, [.ref 47, .int v1, mx_junk], []) h = if mx_in (h.1 47 18) 12 = true then if mx_in ((mx_u h.1 60 ((h.1 47 18).toNatClampNeg) 0) 47 18) 12 = true then if ((mx_u (mx_u h.1 60 ((h.1 47 18).toNatClampNeg) 0) 61 (((mx_u h.1 60 ((h.1 47 18).toNatClampNeg) 0) 47 18).toNatClampNeg) 0) 47 2) = 1 then (mx_C mm_X11_next [.ref 47] ((mx_u (mx_u h.1 60 ((h.1 47 18).toNatClampNeg) 0) 61 (((mx_u h.1 60 ((h.1 47 18).toNatClampNeg) 0) 47 18).toNatClampNeg) 0), h.2.1, h.2.2)).bind (fun o => mx_D (8, mm_X11_readHead, 32, [.ref 47, .int v1, mx_junk], o.1.toList ++ []) o.2) else (if ((mx_u (mx_u h.1 60 ((h.1 47 18).toNatClampNeg) 0) 61 (((mx_u h.1 60 ((h.1 47 18).toNatClampNeg) 0) 47 18).toNatClampNeg) 0) 47 2) = 3 then (mx_C mm_X11_kindOf [.long (h.2.1 47 5), .long (h.2.1 47 6)] ((mx_u (mx_u h.1 60 ((h.1 47 18).toNatClampNeg) 0) 61 (((mx_u h.1 60 ((h.1 47 18).toNatClampNeg) 0) 47 18).toNatClampNeg) 0), h.2.1, h.2.2)).bind (fun o => mx_D (8, mm_X11_readHead, 57, [.ref 47, .int v1, mx_junk], o.1.toList ++ []) o.2) else (mx_D (8, mm_X11_readHead, 61, [.ref 47, .int v1, mx_junk], [.int ((-1))]) ((mx_u (mx_u h.1 60 ((h.1 47 18).toNatClampNeg) 0) 61 (((mx_u h.1 60 ((h.1 47 18).toNatClampNeg) 0) 47 18).toNatClampNeg) 0), h.2.1, h.2.2))) else none else none := by
  refine Eq.trans (q_aload_n dX11_readHead_0 rfl rfl) ?_
  refine Eq.trans (q_getf dX11_readHead_1 mx_fld_11_46 (gf_47_23 _)) ?_
  refine Eq.trans (q_aload_n dX11_readHead_4 rfl rfl) ?_
  refine Eq.trans (q_getf dX11_readHead_5 mx_fld_11_231 (gf_47_18 _)) ?_
  refine Eq.trans (q_iconst (x := 0) dX11_readHead_8 rfl) ?_
  refine Eq.trans (q_st (w := 0) (by decide) dX11_readHead_9 (as_60 _ _ _)) (q_ite ?_)
  refine Eq.trans (q_aload_n dX11_readHead_10 rfl rfl) ?_
  refine Eq.trans (q_getf dX11_readHead_11 mx_fld_11_49 (gf_47_24 _)) ?_
  refine Eq.trans (q_aload_n dX11_readHead_14 rfl rfl) ?_
  refine Eq.trans (q_getf dX11_readHead_15 mx_fld_11_231 (gf_47_18 _)) ?_
  refine Eq.trans (q_iconst (x := 0) dX11_readHead_18 rfl) ?_
  refine Eq.trans (q_st (w := 0) (by decide) dX11_readHead_19 (as_61 _ _ _)) (q_ite ?_)
  refine Eq.trans (q_aload_n dX11_readHead_20 rfl rfl) ?_
  refine Eq.trans (q_getf dX11_readHead_21 mx_fld_11_115 (gf_47_2 _)) ?_
  refine Eq.trans (q_iconst (x := 1) dX11_readHead_24 rfl) ?_
  refine Eq.trans (q_icmp_ne 38 dX11_readHead_25 rfl) (q_ite2 ?_ ?_)
  · refine Eq.trans (q_aload_n dX11_readHead_28 rfl rfl) ?_
    exact q_call0 (as := []) (rest := []) dX11_readHead_29 mx_inv_11_124 rfl rfl rfl ⟨Nat.le_of_ble_eq_true rfl, Nat.le_of_ble_eq_true rfl, (Nat.le_of_ble_eq_true rfl)⟩
  · refine Eq.trans (q_aload_n dX11_readHead_38 rfl rfl) ?_
    refine Eq.trans (q_getf dX11_readHead_39 mx_fld_11_115 (gf_47_2 _)) ?_
    refine Eq.trans (q_iconst (x := 3) dX11_readHead_42 rfl) ?_
    refine Eq.trans (q_icmp_ne 60 dX11_readHead_43 rfl) (q_ite2 ?_ ?_)
    · refine Eq.trans (q_aload_n dX11_readHead_46 rfl rfl) ?_
      refine Eq.trans (q_getf dX11_readHead_47 mx_fld_11_105 (gf_47_5 _)) ?_
      refine Eq.trans (q_aload_n dX11_readHead_50 rfl rfl) ?_
      refine Eq.trans (q_getf dX11_readHead_51 mx_fld_11_109 (gf_47_6 _)) ?_
      exact q_call1 (as := [.long (h.2.1 47 5), .long (h.2.1 47 6)]) (rest := []) dX11_readHead_54 mx_inv_11_189 rfl rfl ⟨Nat.le_of_ble_eq_true rfl, Nat.le_of_ble_eq_true rfl, (Nat.le_of_ble_eq_true rfl)⟩
    · refine Eq.trans (q_iconst (x := (-1)) dX11_readHead_60 rfl) ?_
      rfl
theorem c_X11_readHead (v1 : Int32) (h : mx_H) : mx_C mm_X11_readHead [.ref 47, .int v1] h = mx_D (8, mm_X11_readHead, 0, [.ref 47, .int v1, mx_junk], []) h := rfl
theorem e_X11_readHead_32 (v1 : Int32) (h : mx_H)  : mx_D (8, mm_X11_readHead, 32, [.ref 47, .int v1, mx_junk], []) h = (mx_C mm_X11_readIndexed [.ref 47, .int v1] h).bind (fun o => mx_D (8, mm_X11_readHead, 37, [.ref 47, .int v1, mx_junk], o.1.toList ++ []) o.2) := by
  refine Eq.trans (q_aload_n dX11_readHead_32 rfl rfl) ?_
  refine Eq.trans (q_iload_n dX11_readHead_33 rfl) ?_
  exact q_call0 (as := [.int v1]) (rest := []) dX11_readHead_34 mx_inv_11_234 rfl rfl rfl ⟨Nat.le_of_ble_eq_true rfl, Nat.le_of_ble_eq_true rfl, (Nat.le_of_ble_eq_true rfl)⟩
theorem e_X11_readHead_37 (v1 : Int32) (s0 : Int32) (h : mx_H)  : mx_D (8, mm_X11_readHead, 37, [.ref 47, .int v1, mx_junk], [.int s0]) h = if narrow .boolean (.int s0) = .int s0 then some (some (.int s0), h) else none := by
  exact q_ret dX11_readHead_37 rfl
theorem e_X11_readHead_57 (v1 : Int32) (s0 : Int32) (h : mx_H)  : mx_D (8, mm_X11_readHead, 57, [.ref 47, .int v1, mx_junk], [.int s0]) h = mx_D (8, mm_X11_readHead, 61, [.ref 47, .int v1, mx_junk], [.int s0]) h := by
  refine Eq.trans (q_goto 61 dX11_readHead_57 rfl) ?_
  rfl
theorem e_X11_readHead_61 (v1 : Int32) (s0 : Int32) (h : mx_H)  : mx_D (8, mm_X11_readHead, 61, [.ref 47, .int v1, mx_junk], [.int s0]) h = if s0 < 0 then mx_D (8, mm_X11_readHead, 72, [.ref 47, .int v1, .int s0], [.int 0, .ref 47]) h else (mx_D (8, mm_X11_readHead, 72, [.ref 47, .int v1, .int s0], [.int 1, .ref 47]) h) := by
  refine Eq.trans (q_istore_n (L' := [.ref 47, .int v1, .int s0]) dX11_readHead_61 (Nat.le_of_ble_eq_true rfl) rfl) ?_
  refine Eq.trans (q_aload_n dX11_readHead_62 rfl rfl) ?_
  refine Eq.trans (q_iload_n dX11_readHead_63 rfl) ?_
  refine Eq.trans (q_if_lt 71 dX11_readHead_64 rfl) (q_ite2 ?_ ?_)
  · refine Eq.trans (q_iconst (x := 0) dX11_readHead_71 rfl) ?_
    rfl
  · refine Eq.trans (q_iconst (x := 1) dX11_readHead_67 rfl) ?_
    refine Eq.trans (q_goto 72 dX11_readHead_68 rfl) ?_
    rfl
theorem e_X11_readHead_72 (v1 : Int32) (v2 : Int32) (s1 : Int32) (h : mx_H)  : mx_D (8, mm_X11_readHead, 72, [.ref 47, .int v1, .int v2], [.int s1, .ref 47]) h = (mx_C mm_X11_pass [.ref 47, .int s1] h).bind (fun o => mx_D (8, mm_X11_readHead, 75, [.ref 47, .int v1, .int v2], o.1.toList ++ []) o.2) := by
  exact q_call0 (as := [.int s1]) (rest := []) dX11_readHead_72 mx_inv_11_127 rfl rfl rfl ⟨Nat.le_of_ble_eq_true rfl, Nat.le_of_ble_eq_true rfl, (Nat.le_of_ble_eq_true rfl)⟩
theorem e_X11_readHead_75 (v1 : Int32) (v2 : Int32) (s0 : Int32) (h : mx_H)  : mx_D (8, mm_X11_readHead, 75, [.ref 47, .int v1, .int v2], [.int s0]) h = if s0 = 0 then some (some (.int 0), h) else (if v2 = 35 then if (h.1 47 2) = 1 then mx_D (8, mm_X11_readHead, 100, [.ref 47, .int v1, .int v2], [.int 1, .ref 47]) h else (mx_D (8, mm_X11_readHead, 100, [.ref 47, .int v1, .int v2], [.int 0, .ref 47]) h) else (mx_D (8, mm_X11_readHead, 154, [.ref 47, .int v1, .int v2], []) h)) := by
  refine Eq.trans (q_if_ne 80 dX11_readHead_75 rfl) (q_ite2 ?_ ?_)
  · refine Eq.trans (q_iconst (x := 0) dX11_readHead_78 rfl) ?_
    exact Eq.trans (q_ret dX11_readHead_79 rfl) (if_pos rfl)
  · refine Eq.trans (q_iload_n dX11_readHead_80 rfl) ?_
    refine Eq.trans (q_bipush (x := 35) dX11_readHead_81 rfl) ?_
    refine Eq.trans (q_icmp_ne 154 dX11_readHead_83 rfl) (q_ite2 ?_ ?_)
    · refine Eq.trans (q_aload_n dX11_readHead_86 rfl rfl) ?_
      refine Eq.trans (q_aload_n dX11_readHead_87 rfl rfl) ?_
      refine Eq.trans (q_getf dX11_readHead_88 mx_fld_11_115 (gf_47_2 _)) ?_
      refine Eq.trans (q_iconst (x := 1) dX11_readHead_91 rfl) ?_
      refine Eq.trans (q_icmp_ne 99 dX11_readHead_92 rfl) (q_ite2 ?_ ?_)
      · refine Eq.trans (q_iconst (x := 1) dX11_readHead_95 rfl) ?_
        refine Eq.trans (q_goto 100 dX11_readHead_96 rfl) ?_
        rfl
      · refine Eq.trans (q_iconst (x := 0) dX11_readHead_99 rfl) ?_
        rfl
    · rfl
theorem e_X11_readHead_100 (v1 : Int32) (v2 : Int32) (s1 : Int32) (h : mx_H)  : mx_D (8, mm_X11_readHead, 100, [.ref 47, .int v1, .int v2], [.int s1, .ref 47]) h = (mx_C mm_X11_pass [.ref 47, .int s1] h).bind (fun o => mx_D (8, mm_X11_readHead, 103, [.ref 47, .int v1, .int v2], o.1.toList ++ []) o.2) := by
  exact q_call0 (as := [.int s1]) (rest := []) dX11_readHead_100 mx_inv_11_127 rfl rfl rfl ⟨Nat.le_of_ble_eq_true rfl, Nat.le_of_ble_eq_true rfl, (Nat.le_of_ble_eq_true rfl)⟩
theorem e_X11_readHead_103 (v1 : Int32) (v2 : Int32) (s0 : Int32) (h : mx_H)  : mx_D (8, mm_X11_readHead, 103, [.ref 47, .int v1, .int v2], [.int s0]) h = if s0 = 0 then mx_D (8, mm_X11_readHead, 126, [.ref 47, .int v1, .int v2], []) h else (if (h.1 47 2) = 1 then mx_D (8, mm_X11_readHead, 120, [.ref 47, .int v1, .int v2], [.int 1, .ref 47]) h else (mx_D (8, mm_X11_readHead, 120, [.ref 47, .int v1, .int v2], [.int 0, .ref 47]) h)) := by
  refine Eq.trans (q_if_eq 126 dX11_readHead_103 rfl) (q_ite2 ?_ ?_)
  · rfl
  · refine Eq.trans (q_aload_n dX11_readHead_106 rfl rfl) ?_
    refine Eq.trans (q_aload_n dX11_readHead_107 rfl rfl) ?_
    refine Eq.trans (q_getf dX11_readHead_108 mx_fld_11_115 (gf_47_2 _)) ?_
    refine Eq.trans (q_iconst (x := 1) dX11_readHead_111 rfl) ?_
    refine Eq.trans (q_icmp_ne 119 dX11_readHead_112 rfl) (q_ite2 ?_ ?_)
    · refine Eq.trans (q_iconst (x := 1) dX11_readHead_115 rfl) ?_
      refine Eq.trans (q_goto 120 dX11_readHead_116 rfl) ?_
      rfl
    · refine Eq.trans (q_iconst (x := 0) dX11_readHead_119 rfl) ?_
      rfl
theorem e_X11_readHead_120 (v1 : Int32) (v2 : Int32) (s1 : Int32) (h : mx_H)  : mx_D (8, mm_X11_readHead, 120, [.ref 47, .int v1, .int v2], [.int s1, .ref 47]) h = (mx_C mm_X11_pass [.ref 47, .int s1] h).bind (fun o => mx_D (8, mm_X11_readHead, 123, [.ref 47, .int v1, .int v2], o.1.toList ++ []) o.2) := by
  exact q_call0 (as := [.int s1]) (rest := []) dX11_readHead_120 mx_inv_11_127 rfl rfl rfl ⟨Nat.le_of_ble_eq_true rfl, Nat.le_of_ble_eq_true rfl, (Nat.le_of_ble_eq_true rfl)⟩
theorem e_X11_readHead_123 (v1 : Int32) (v2 : Int32) (s0 : Int32) (h : mx_H)  : mx_D (8, mm_X11_readHead, 123, [.ref 47, .int v1, .int v2], [.int s0]) h = if s0 = 0 then mx_D (8, mm_X11_readHead, 126, [.ref 47, .int v1, .int v2], []) h else (if mx_in (h.1 47 18) 12 = true then (mx_C mm_X11_isName [.ref 47] (h.1, (mx_u h.2.1 62 ((h.1 47 18).toNatClampNeg) (h.2.1 47 5)), h.2.2)).bind (fun o => mx_D (8, mm_X11_readHead, 146, [.ref 47, .int v1, .int v2], o.1.toList ++ [.ref 47]) o.2) else none) := by
  refine Eq.trans (q_if_ne 128 dX11_readHead_123 rfl) (q_ite2 ?_ ?_)
  · rfl
  · refine Eq.trans (q_aload_n dX11_readHead_128 rfl rfl) ?_
    refine Eq.trans (q_getf dX11_readHead_129 mx_fld_11_52 (gf_47_25 _)) ?_
    refine Eq.trans (q_aload_n dX11_readHead_132 rfl rfl) ?_
    refine Eq.trans (q_getf dX11_readHead_133 mx_fld_11_231 (gf_47_18 _)) ?_
    refine Eq.trans (q_aload_n dX11_readHead_136 rfl rfl) ?_
    refine Eq.trans (q_getf dX11_readHead_137 mx_fld_11_105 (gf_47_5 _)) ?_
    refine Eq.trans (q_st (w := 3) (by decide) dX11_readHead_140 (as_62 _ _ _)) (q_ite ?_)
    refine Eq.trans (q_aload_n dX11_readHead_141 rfl rfl) ?_
    refine Eq.trans (q_aload_n dX11_readHead_142 rfl rfl) ?_
    exact q_call0 (as := []) (rest := [.ref 47]) dX11_readHead_143 mx_inv_11_237 rfl rfl rfl ⟨Nat.le_of_ble_eq_true rfl, Nat.le_of_ble_eq_true rfl, (Nat.le_of_ble_eq_true rfl)⟩
theorem e_X11_readHead_126 (v1 : Int32) (v2 : Int32) (h : mx_H)  : mx_D (8, mm_X11_readHead, 126, [.ref 47, .int v1, .int v2], []) h = some (some (.int 0), h) := by
  refine Eq.trans (q_iconst (x := 0) dX11_readHead_126 rfl) ?_
  exact Eq.trans (q_ret dX11_readHead_127 rfl) (if_pos rfl)
theorem e_X11_readHead_146 (v1 : Int32) (v2 : Int32) (s1 : Int32) (h : mx_H)  : mx_D (8, mm_X11_readHead, 146, [.ref 47, .int v1, .int v2], [.int s1, .ref 47]) h = (mx_C mm_X11_pass [.ref 47, .int s1] h).bind (fun o => mx_D (8, mm_X11_readHead, 149, [.ref 47, .int v1, .int v2], o.1.toList ++ []) o.2) := by
  exact q_call0 (as := [.int s1]) (rest := []) dX11_readHead_146 mx_inv_11_127 rfl rfl rfl ⟨Nat.le_of_ble_eq_true rfl, Nat.le_of_ble_eq_true rfl, (Nat.le_of_ble_eq_true rfl)⟩
theorem e_X11_readHead_149 (v1 : Int32) (v2 : Int32) (s0 : Int32) (h : mx_H)  : mx_D (8, mm_X11_readHead, 149, [.ref 47, .int v1, .int v2], [.int s0]) h = if s0 = 0 then some (some (.int 0), h) else (mx_D (8, mm_X11_readHead, 154, [.ref 47, .int v1, .int v2], []) h) := by
  refine Eq.trans (q_if_ne 154 dX11_readHead_149 rfl) (q_ite2 ?_ ?_)
  · refine Eq.trans (q_iconst (x := 0) dX11_readHead_152 rfl) ?_
    exact Eq.trans (q_ret dX11_readHead_153 rfl) (if_pos rfl)
  · rfl
theorem e_X11_readHead_154 (v1 : Int32) (v2 : Int32) (h : mx_H)  : mx_D (8, mm_X11_readHead, 154, [.ref 47, .int v1, .int v2], []) h = (mx_C mm_X11_push [.ref 47, .int v2, .int v1] h).bind (fun o => mx_D (8, mm_X11_readHead, 160, [.ref 47, .int v1, .int v2], o.1.toList ++ []) o.2) := by
  refine Eq.trans (q_aload_n dX11_readHead_154 rfl rfl) ?_
  refine Eq.trans (q_iload_n dX11_readHead_155 rfl) ?_
  refine Eq.trans (q_iload_n dX11_readHead_156 rfl) ?_
  exact q_call0 (as := [.int v2, .int v1]) (rest := []) dX11_readHead_157 mx_inv_11_241 rfl rfl rfl ⟨Nat.le_of_ble_eq_true rfl, Nat.le_of_ble_eq_true rfl, (Nat.le_of_ble_eq_true rfl)⟩
theorem e_X11_readHead_160 (v1 : Int32) (v2 : Int32) (h : mx_H)  : mx_D (8, mm_X11_readHead, 160, [.ref 47, .int v1, .int v2], []) h = some (some (.int 1), h) := by
  refine Eq.trans (q_iconst (x := 1) dX11_readHead_160 rfl) ?_
  exact Eq.trans (q_ret dX11_readHead_161 rfl) (if_pos rfl)
theorem e_X11_readIndexed_0 (v1 : Int32) (h : mx_H)  : mx_D (7, mm_X11_readIndexed, 0, [.ref 47, .int v1, mx_junk, mx_junk, mx_junk, mx_junk], []) h = (mx_C mm_X11_word [.ref 47, .long 95, .long 0] h).bind (fun o => mx_D (7, mm_X11_readIndexed, 8, [.ref 47, .int v1, mx_junk, mx_junk, mx_junk, mx_junk], o.1.toList ++ []) o.2) := by
  refine Eq.trans (q_aload_n dX11_readIndexed_0 rfl rfl) ?_
  refine Eq.trans (q_ldc2 dX11_readIndexed_1 mx_ldc2_11_201) ?_
  refine Eq.trans (q_lconst (x := 0) dX11_readIndexed_4 rfl) ?_
  exact q_call0 (as := [.long 95, .long 0]) (rest := []) dX11_readIndexed_5 mx_inv_11_203 rfl rfl rfl ⟨Nat.le_of_ble_eq_true rfl, Nat.le_of_ble_eq_true rfl, (Nat.le_of_ble_eq_true rfl)⟩
theorem c_X11_readIndexed (v1 : Int32) (h : mx_H) : mx_C mm_X11_readIndexed [.ref 47, .int v1] h = mx_D (7, mm_X11_readIndexed, 0, [.ref 47, .int v1, mx_junk, mx_junk, mx_junk, mx_junk], []) h := rfl
theorem e_X11_readIndexed_8 (v1 : Int32) (s0 : Int32) (h : mx_H)  : mx_D (7, mm_X11_readIndexed, 8, [.ref 47, .int v1, mx_junk, mx_junk, mx_junk, mx_junk], [.int s0]) h = if s0 = 0 then some (some (.int 0), h) else (if (h.1 47 2) = 3 then mx_D (7, mm_X11_readIndexed, 26, [.ref 47, .int v1, mx_junk, mx_junk, mx_junk, mx_junk], [.int 1]) h else (mx_D (7, mm_X11_readIndexed, 26, [.ref 47, .int v1, mx_junk, mx_junk, mx_junk, mx_junk], [.int 0]) h)) := by
  refine Eq.trans (q_if_ne 13 dX11_readIndexed_8 rfl) (q_ite2 ?_ ?_)
  · refine Eq.trans (q_iconst (x := 0) dX11_readIndexed_11 rfl) ?_
    exact Eq.trans (q_ret dX11_readIndexed_12 rfl) (if_pos rfl)
  · refine Eq.trans (q_aload_n dX11_readIndexed_13 rfl rfl) ?_
    refine Eq.trans (q_getf dX11_readIndexed_14 mx_fld_11_115 (gf_47_2 _)) ?_
    refine Eq.trans (q_iconst (x := 3) dX11_readIndexed_17 rfl) ?_
    refine Eq.trans (q_icmp_ne 25 dX11_readIndexed_18 rfl) (q_ite2 ?_ ?_)
    · refine Eq.trans (q_iconst (x := 1) dX11_readIndexed_21 rfl) ?_
      refine Eq.trans (q_goto 26 dX11_readIndexed_22 rfl) ?_
      rfl
    · refine Eq.trans (q_iconst (x := 0) dX11_readIndexed_25 rfl) ?_
      rfl
