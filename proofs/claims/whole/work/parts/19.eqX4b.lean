theorem e_X4_readTerm_92 (rk : Nat) (v1 : Int32) (v2 : Option Nat) (s0 : Int32) (h : mx_H)  : mx_D (rk, mm_X4_readTerm, 92, [.ref 18, .int v1, mx_rf v2], [.int s0]) h = some (some (.int s0), h) := by
  exact q_retI dX4_readTerm_92 rfl
theorem e_X4_readTerm_108 (rk : Nat) (v1 : Int32) (v2 : Option Nat) (s0 : Int32) (h : mx_H) (hr0 : mx_rank mm_X4_readParts [.ref 18, mx_rf v2, .int 0, .int 0, .int v1] < rk) : mx_D (rk, mm_X4_readTerm, 108, [.ref 18, .int v1, mx_rf v2], [.int s0]) h = if s0 = 0 then (mx_C mm_X4_readParts [.ref 18, mx_rf v2, .int 0, .int 0, .int v1] ((mx_u h.1 18 3 ((h.1 18 3) + 1)), h.2.1, h.2.2)).bind (fun o => mx_D (rk, mm_X4_readTerm, 138, [.ref 18, .int v1, mx_rf v2], o.1.toList ++ []) o.2) else (mx_D (rk, mm_X4_readTerm, 111, [.ref 18, .int v1, mx_rf v2], []) h) := by
  refine Eq.trans (q_if_eq 120 dX4_readTerm_108 rfl) (q_ite2 ?_ ?_)
  · refine Eq.trans (q_aload_n dX4_readTerm_120 rfl rfl) ?_
    refine Eq.trans (q_dup dX4_readTerm_121 rfl) ?_
    refine Eq.trans (q_getf dX4_readTerm_122 mx_fld_4_33 (gf_18_3 _)) ?_
    refine Eq.trans (q_iconst (x := 1) dX4_readTerm_125 rfl) ?_
    refine Eq.trans (q_iadd dX4_readTerm_126) ?_
    refine Eq.trans (q_putf dX4_readTerm_127 mx_fld_4_33 (pf_18_3 _ _)) ?_
    refine Eq.trans (q_aload_n dX4_readTerm_130 rfl rfl) ?_
    refine Eq.trans (q_aload_n dX4_readTerm_131 rfl (mx_ar_rf _)) ?_
    refine Eq.trans (q_iconst (x := 0) dX4_readTerm_132 rfl) ?_
    refine Eq.trans (q_iconst (x := 0) dX4_readTerm_133 rfl) ?_
    refine Eq.trans (q_iload_n dX4_readTerm_134 rfl) ?_
    exact q_call0 (as := [mx_rf v2, .int 0, .int 0, .int v1]) (rest := []) dX4_readTerm_135 mx_inv_4_158 rfl rfl rfl ⟨Nat.le_of_ble_eq_true rfl, (by cases v2 <;> exact Nat.le_of_ble_eq_true rfl), hr0⟩
  · rfl
theorem e_X4_readTerm_111 (rk : Nat) (v1 : Int32) (v2 : Option Nat) (h : mx_H) (hr0 : mx_rank mm_X4_noTermAt [.ref 18, .int (h.1 18 3)] < rk) : mx_D (rk, mm_X4_readTerm, 111, [.ref 18, .int v1, mx_rf v2], []) h = (mx_C mm_X4_noTermAt [.ref 18, .int (h.1 18 3)] h).bind (fun o => mx_D (rk, mm_X4_readTerm, 119, [.ref 18, .int v1, mx_rf v2], o.1.toList ++ []) o.2) := by
  refine Eq.trans (q_aload_n dX4_readTerm_111 rfl rfl) ?_
  refine Eq.trans (q_aload_n dX4_readTerm_112 rfl rfl) ?_
  refine Eq.trans (q_getf dX4_readTerm_113 mx_fld_4_33 (gf_18_3 _)) ?_
  exact q_call0 (as := [.int (h.1 18 3)]) (rest := []) dX4_readTerm_116 mx_inv_4_137 rfl rfl rfl ⟨Nat.le_of_ble_eq_true rfl, Nat.le_of_ble_eq_true rfl, hr0⟩
theorem e_X4_readTerm_119 (rk : Nat) (v1 : Int32) (v2 : Option Nat) (s0 : Int32) (h : mx_H)  : mx_D (rk, mm_X4_readTerm, 119, [.ref 18, .int v1, mx_rf v2], [.int s0]) h = some (some (.int s0), h) := by
  exact q_retI dX4_readTerm_119 rfl
theorem e_X4_readTerm_138 (rk : Nat) (v1 : Int32) (v2 : Option Nat) (s0 : Int32) (h : mx_H)  : mx_D (rk, mm_X4_readTerm, 138, [.ref 18, .int v1, mx_rf v2], [.int s0]) h = some (some (.int s0), h) := by
  exact q_retI dX4_readTerm_138 rfl
theorem e_X4_readAtom_0  (h : mx_H)  : mx_D (4, mm_X4_readAtom, 0, [.ref 18, mx_junk, mx_junk, mx_junk, mx_junk, mx_junk], []) h = (mx_C mm_X8_wordAt [.ref 1, .int (h.1 18 3)] ((mx_u h.1 18 3 ((h.1 18 3) + 1)), h.2.1, h.2.2)).bind (fun o => mx_D (4, mm_X4_readAtom, 23, [.ref 18, .int (h.1 18 3), mx_junk, mx_junk, mx_junk, mx_junk], o.1.toList ++ []) o.2) := by
  refine Eq.trans (q_aload_n dX4_readAtom_0 rfl rfl) ?_
  refine Eq.trans (q_getf dX4_readAtom_1 mx_fld_4_33 (gf_18_3 _)) ?_
  refine Eq.trans (q_istore_n (L' := [.ref 18, .int (h.1 18 3), mx_junk, mx_junk, mx_junk, mx_junk]) dX4_readAtom_4 (Nat.le_of_ble_eq_true rfl) rfl) ?_
  refine Eq.trans (q_aload_n dX4_readAtom_5 rfl rfl) ?_
  refine Eq.trans (q_dup dX4_readAtom_6 rfl) ?_
  refine Eq.trans (q_getf dX4_readAtom_7 mx_fld_4_33 (gf_18_3 _)) ?_
  refine Eq.trans (q_iconst (x := 1) dX4_readAtom_10 rfl) ?_
  refine Eq.trans (q_iadd dX4_readAtom_11) ?_
  refine Eq.trans (q_putf dX4_readAtom_12 mx_fld_4_33 (pf_18_3 _ _)) ?_
  refine Eq.trans (q_aload_n dX4_readAtom_15 rfl rfl) ?_
  refine Eq.trans (q_getf dX4_readAtom_16 mx_fld_4_21 (gf_18_0 _)) ?_
  refine Eq.trans (q_iload_n dX4_readAtom_19 rfl) ?_
  exact q_call0 (as := [.int (h.1 18 3)]) (rest := []) dX4_readAtom_20 mx_inv_4_47 rfl rfl rfl ⟨Nat.le_of_ble_eq_true rfl, Nat.le_of_ble_eq_true rfl, (Nat.le_of_ble_eq_true rfl)⟩
theorem c_X4_readAtom  (h : mx_H) : mx_C mm_X4_readAtom [.ref 18] h = mx_D (4, mm_X4_readAtom, 0, [.ref 18, mx_junk, mx_junk, mx_junk, mx_junk, mx_junk], []) h := rfl
theorem e_X4_readAtom_23 (v1 : Int32) (s0 : Option Nat) (h : mx_H) (hq0 : mx_wr (mx_rf s0) = true) : mx_D (4, mm_X4_readAtom, 23, [.ref 18, .int v1, mx_junk, mx_junk, mx_junk, mx_junk], [mx_rf s0]) h = if (mx_rf s0 : Value) = .ref 1008 then mx_D (4, mm_X4_readAtom, 38, [.ref 18, .int v1, mx_rf s0, mx_junk, mx_junk, mx_junk], []) h else (if (mx_rf s0 : Value) = .ref 1009 then mx_D (4, mm_X4_readAtom, 38, [.ref 18, .int v1, mx_rf s0, mx_junk, mx_junk, mx_junk], []) h else ((mx_C mm_X8_widthAt [.ref 1, .int v1] h).bind (fun o => mx_D (4, mm_X4_readAtom, 65, [.ref 18, .int v1, mx_rf s0, mx_junk, mx_junk, mx_junk], o.1.toList ++ []) o.2))) := by
  refine Eq.trans (q_astore_n (L' := [.ref 18, .int v1, mx_rf s0, mx_junk, mx_junk, mx_junk]) dX4_readAtom_23 (mx_ar_rf _) (Nat.le_of_ble_eq_true rfl) rfl) ?_
  refine Eq.trans (q_aload_n dX4_readAtom_24 rfl (mx_ar_rf _)) ?_
  refine Eq.trans (q_gets dX4_readAtom_25 mx_sta_4_162) ?_
  refine Eq.trans (q_acmp_eq 38 dX4_readAtom_28 hq0 rfl rfl) (q_ite2 ?_ ?_)
  · rfl
  · refine Eq.trans (q_aload_n dX4_readAtom_31 rfl (mx_ar_rf _)) ?_
    refine Eq.trans (q_gets dX4_readAtom_32 mx_sta_4_165) ?_
    refine Eq.trans (q_acmp_ne 57 dX4_readAtom_35 hq0 rfl rfl) (q_ite2 ?_ ?_)
    · rfl
    · refine Eq.trans (q_aload_n dX4_readAtom_57 rfl rfl) ?_
      refine Eq.trans (q_getf dX4_readAtom_58 mx_fld_4_21 (gf_18_0 _)) ?_
      refine Eq.trans (q_iload_n dX4_readAtom_61 rfl) ?_
      exact q_call0 (as := [.int v1]) (rest := []) dX4_readAtom_62 mx_inv_4_175 rfl rfl rfl ⟨Nat.le_of_ble_eq_true rfl, Nat.le_of_ble_eq_true rfl, (Nat.le_of_ble_eq_true rfl)⟩
theorem e_X4_readAtom_38 (v1 : Int32) (v2 : Option Nat) (h : mx_H)  : mx_D (4, mm_X4_readAtom, 38, [.ref 18, .int v1, mx_rf v2, mx_junk, mx_junk, mx_junk], []) h = (mx_C mm_X7_prepare [.ref 6, mx_rf v2, .int 0, .int 0, .int 0] h).bind (fun o => mx_D (4, mm_X4_readAtom, 49, [.ref 18, .int v1, mx_rf v2, mx_junk, mx_junk, mx_junk], o.1.toList ++ []) o.2) := by
  refine Eq.trans (q_aload_n dX4_readAtom_38 rfl rfl) ?_
  refine Eq.trans (q_getf dX4_readAtom_39 mx_fld_4_25 (gf_18_1 _)) ?_
  refine Eq.trans (q_aload_n dX4_readAtom_42 rfl (mx_ar_rf _)) ?_
  refine Eq.trans (q_iconst (x := 0) dX4_readAtom_43 rfl) ?_
  refine Eq.trans (q_iconst (x := 0) dX4_readAtom_44 rfl) ?_
  refine Eq.trans (q_iconst (x := 0) dX4_readAtom_45 rfl) ?_
  exact q_call0 (as := [mx_rf v2, .int 0, .int 0, .int 0]) (rest := []) dX4_readAtom_46 mx_inv_4_168 rfl rfl rfl ⟨Nat.le_of_ble_eq_true rfl, (by cases v2 <;> exact Nat.le_of_ble_eq_true rfl), (Nat.le_of_ble_eq_true rfl)⟩
theorem e_X4_readAtom_49 (v1 : Int32) (v2 : Option Nat) (h : mx_H)  : mx_D (4, mm_X4_readAtom, 49, [.ref 18, .int v1, mx_rf v2, mx_junk, mx_junk, mx_junk], []) h = (mx_C mm_X7_make [.ref 6] h).bind (fun o => mx_D (4, mm_X4_readAtom, 56, [.ref 18, .int v1, mx_rf v2, mx_junk, mx_junk, mx_junk], o.1.toList ++ []) o.2) := by
  refine Eq.trans (q_aload_n dX4_readAtom_49 rfl rfl) ?_
  refine Eq.trans (q_getf dX4_readAtom_50 mx_fld_4_25 (gf_18_1 _)) ?_
  exact q_call0 (as := []) (rest := []) dX4_readAtom_53 mx_inv_4_172 rfl rfl rfl ⟨Nat.le_of_ble_eq_true rfl, Nat.le_of_ble_eq_true rfl, (Nat.le_of_ble_eq_true rfl)⟩
theorem e_X4_readAtom_56 (v1 : Int32) (v2 : Option Nat) (s0 : Int32) (h : mx_H)  : mx_D (4, mm_X4_readAtom, 56, [.ref 18, .int v1, mx_rf v2, mx_junk, mx_junk, mx_junk], [.int s0]) h = some (some (.int s0), h) := by
  exact q_retI dX4_readAtom_56 rfl
theorem e_X4_readAtom_65 (v1 : Int32) (v2 : Option Nat) (s0 : Int32) (h : mx_H)  : mx_D (4, mm_X4_readAtom, 65, [.ref 18, .int v1, mx_rf v2, mx_junk, mx_junk, mx_junk], [.int s0]) h = if s0 ≤ 0 then (mx_C mm_X8_nameAt [.ref 1, .int v1] h).bind (fun o => mx_D (4, mm_X4_readAtom, 107, [.ref 18, .int v1, mx_rf v2, .int s0, mx_junk, mx_junk], o.1.toList ++ []) o.2) else ((mx_C mm_X8_bitsAt [.ref 1, .int v1, .int s0] h).bind (fun o => mx_D (4, mm_X4_readAtom, 86, [.ref 18, .int v1, mx_rf v2, .int s0, mx_junk, mx_junk], o.1.toList ++ [.ref 1001, .ref 6]) o.2)) := by
  refine Eq.trans (q_istore_n (L' := [.ref 18, .int v1, mx_rf v2, .int s0, mx_junk, mx_junk]) dX4_readAtom_65 (Nat.le_of_ble_eq_true rfl) (by cases v2 <;> exact rfl)) ?_
  refine Eq.trans (q_iload_n dX4_readAtom_66 rfl) ?_
  refine Eq.trans (q_if_le 99 dX4_readAtom_67 rfl) (q_ite2 ?_ ?_)
  · refine Eq.trans (q_aload_n dX4_readAtom_99 rfl rfl) ?_
    refine Eq.trans (q_getf dX4_readAtom_100 mx_fld_4_21 (gf_18_0 _)) ?_
    refine Eq.trans (q_iload_n dX4_readAtom_103 rfl) ?_
    exact q_call0 (as := [.int v1]) (rest := []) dX4_readAtom_104 mx_inv_4_102 rfl rfl rfl ⟨Nat.le_of_ble_eq_true rfl, Nat.le_of_ble_eq_true rfl, (Nat.le_of_ble_eq_true rfl)⟩
  · refine Eq.trans (q_aload_n dX4_readAtom_70 rfl rfl) ?_
    refine Eq.trans (q_getf dX4_readAtom_71 mx_fld_4_25 (gf_18_1 _)) ?_
    refine Eq.trans (q_gets dX4_readAtom_74 mx_sta_4_131) ?_
    refine Eq.trans (q_aload_n dX4_readAtom_77 rfl rfl) ?_
    refine Eq.trans (q_getf dX4_readAtom_78 mx_fld_4_21 (gf_18_0 _)) ?_
    refine Eq.trans (q_iload_n dX4_readAtom_81 rfl) ?_
    refine Eq.trans (q_iload_n dX4_readAtom_82 rfl) ?_
    exact q_call0 (as := [.int v1, .int s0]) (rest := [.ref 1001, .ref 6]) dX4_readAtom_83 mx_inv_4_178 rfl rfl rfl ⟨Nat.le_of_ble_eq_true rfl, Nat.le_of_ble_eq_true rfl, (Nat.le_of_ble_eq_true rfl)⟩
theorem e_X4_readAtom_86 (v1 : Int32) (v2 : Option Nat) (v3 : Int32) (s2 : Int32) (h : mx_H)  : mx_D (4, mm_X4_readAtom, 86, [.ref 18, .int v1, mx_rf v2, .int v3, mx_junk, mx_junk], [.int s2, .ref 1001, .ref 6]) h = (mx_C mm_X7_prepare [.ref 6, .ref 1001, .int s2, .int 0, .int v3] h).bind (fun o => mx_D (4, mm_X4_readAtom, 91, [.ref 18, .int v1, mx_rf v2, .int v3, mx_junk, mx_junk], o.1.toList ++ []) o.2) := by
  refine Eq.trans (q_iconst (x := 0) dX4_readAtom_86 rfl) ?_
  refine Eq.trans (q_iload_n dX4_readAtom_87 rfl) ?_
  exact q_call0 (as := [.ref 1001, .int s2, .int 0, .int v3]) (rest := []) dX4_readAtom_88 mx_inv_4_168 rfl rfl rfl ⟨Nat.le_of_ble_eq_true rfl, Nat.le_of_ble_eq_true rfl, (Nat.le_of_ble_eq_true rfl)⟩
theorem e_X4_readAtom_91 (v1 : Int32) (v2 : Option Nat) (v3 : Int32) (h : mx_H)  : mx_D (4, mm_X4_readAtom, 91, [.ref 18, .int v1, mx_rf v2, .int v3, mx_junk, mx_junk], []) h = (mx_C mm_X7_make [.ref 6] h).bind (fun o => mx_D (4, mm_X4_readAtom, 98, [.ref 18, .int v1, mx_rf v2, .int v3, mx_junk, mx_junk], o.1.toList ++ []) o.2) := by
  refine Eq.trans (q_aload_n dX4_readAtom_91 rfl rfl) ?_
  refine Eq.trans (q_getf dX4_readAtom_92 mx_fld_4_25 (gf_18_1 _)) ?_
  exact q_call0 (as := []) (rest := []) dX4_readAtom_95 mx_inv_4_172 rfl rfl rfl ⟨Nat.le_of_ble_eq_true rfl, Nat.le_of_ble_eq_true rfl, (Nat.le_of_ble_eq_true rfl)⟩
theorem e_X4_readAtom_98 (v1 : Int32) (v2 : Option Nat) (v3 : Int32) (s0 : Int32) (h : mx_H)  : mx_D (4, mm_X4_readAtom, 98, [.ref 18, .int v1, mx_rf v2, .int v3, mx_junk, mx_junk], [.int s0]) h = some (some (.int s0), h) := by
  exact q_retI dX4_readAtom_98 rfl
theorem e_X4_readAtom_107 (v1 : Int32) (v2 : Option Nat) (v3 : Int32) (s0 : Int32) (h : mx_H)  : mx_D (4, mm_X4_readAtom, 107, [.ref 18, .int v1, mx_rf v2, .int v3, mx_junk, mx_junk], [.int s0]) h = if s0 = 0 then mx_D (4, mm_X4_readAtom, 124, [.ref 18, .int v1, mx_rf v2, .int v3, .int s0, mx_junk], [.int ((-1))]) h else ((mx_C mm_X4_meaningOf [.ref 18, .int s0] h).bind (fun o => mx_D (4, mm_X4_readAtom, 124, [.ref 18, .int v1, mx_rf v2, .int v3, .int s0, mx_junk], o.1.toList ++ []) o.2)) := by
  refine Eq.trans (q_istore (L' := [.ref 18, .int v1, mx_rf v2, .int v3, .int s0, mx_junk]) dX4_readAtom_107 (Nat.le_of_ble_eq_true rfl) rfl) ?_
  refine Eq.trans (q_iload dX4_readAtom_109 rfl) ?_
  refine Eq.trans (q_if_ne 118 dX4_readAtom_111 rfl) (q_ite2 ?_ ?_)
  · refine Eq.trans (q_iconst (x := (-1)) dX4_readAtom_114 rfl) ?_
    refine Eq.trans (q_goto 124 dX4_readAtom_115 rfl) ?_
    rfl
  · refine Eq.trans (q_aload_n dX4_readAtom_118 rfl rfl) ?_
    refine Eq.trans (q_iload dX4_readAtom_119 rfl) ?_
    exact q_call0 (as := [.int s0]) (rest := []) dX4_readAtom_121 mx_inv_4_182 rfl rfl rfl ⟨Nat.le_of_ble_eq_true rfl, Nat.le_of_ble_eq_true rfl, (Nat.le_of_ble_eq_true rfl)⟩
theorem e_X4_readAtom_124 (v1 : Int32) (v2 : Option Nat) (v3 : Int32) (v4 : Int32) (s0 : Int32) (h : mx_H)  : mx_D (4, mm_X4_readAtom, 124, [.ref 18, .int v1, mx_rf v2, .int v3, .int v4, mx_junk], [.int s0]) h = if s0 = ((-1)) then (mx_C mm_X4_noTermAt [.ref 18, .int v1] h).bind (fun o => mx_D (4, mm_X4_readAtom, 137, [.ref 18, .int v1, mx_rf v2, .int v3, .int v4, .int s0], o.1.toList ++ []) o.2) else (mx_D (4, mm_X4_readAtom, 142, [.ref 18, .int v1, mx_rf v2, .int v3, .int v4, .int s0], [.int s0]) h) := by
  refine Eq.trans (q_istore (L' := [.ref 18, .int v1, mx_rf v2, .int v3, .int v4, .int s0]) dX4_readAtom_124 (Nat.le_of_ble_eq_true rfl) rfl) ?_
  refine Eq.trans (q_iload dX4_readAtom_126 rfl) ?_
  refine Eq.trans (q_iconst (x := (-1)) dX4_readAtom_128 rfl) ?_
  refine Eq.trans (q_icmp_ne 140 dX4_readAtom_129 rfl) (q_ite2 ?_ ?_)
  · refine Eq.trans (q_aload_n dX4_readAtom_132 rfl rfl) ?_
    refine Eq.trans (q_iload_n dX4_readAtom_133 rfl) ?_
    exact q_call0 (as := [.int v1]) (rest := []) dX4_readAtom_134 mx_inv_4_137 rfl rfl rfl ⟨Nat.le_of_ble_eq_true rfl, Nat.le_of_ble_eq_true rfl, (Nat.le_of_ble_eq_true rfl)⟩
  · refine Eq.trans (q_iload dX4_readAtom_140 rfl) ?_
    rfl
theorem e_X4_readAtom_137 (v1 : Int32) (v2 : Option Nat) (v3 : Int32) (v4 : Int32) (v5 : Int32) (s0 : Int32) (h : mx_H)  : mx_D (4, mm_X4_readAtom, 137, [.ref 18, .int v1, mx_rf v2, .int v3, .int v4, .int v5], [.int s0]) h = mx_D (4, mm_X4_readAtom, 142, [.ref 18, .int v1, mx_rf v2, .int v3, .int v4, .int v5], [.int s0]) h := by
  refine Eq.trans (q_goto 142 dX4_readAtom_137 rfl) ?_
  rfl
theorem e_X4_readAtom_142 (v1 : Int32) (v2 : Option Nat) (v3 : Int32) (v4 : Int32) (v5 : Int32) (s0 : Int32) (h : mx_H)  : mx_D (4, mm_X4_readAtom, 142, [.ref 18, .int v1, mx_rf v2, .int v3, .int v4, .int v5], [.int s0]) h = some (some (.int s0), h) := by
  exact q_retI dX4_readAtom_142 rfl
theorem e_X4_meaningOf_0 (v1 : Int32) (h : mx_H)  : mx_D (2, mm_X4_meaningOf, 0, [.ref 18, .int v1, mx_junk], []) h = mx_D (2, mm_X4_meaningOf, 7, [.ref 18, .int v1, .int ((h.1 18 11) - 1)], []) h := by
  refine Eq.trans (q_aload_n dX4_meaningOf_0 rfl rfl) ?_
  refine Eq.trans (q_getf dX4_meaningOf_1 mx_fld_4_37 (gf_18_11 _)) ?_
  refine Eq.trans (q_iconst (x := 1) dX4_meaningOf_4 rfl) ?_
  refine Eq.trans (q_isub dX4_meaningOf_5) ?_
  refine Eq.trans (q_istore_n (L' := [.ref 18, .int v1, .int ((h.1 18 11) - 1)]) dX4_meaningOf_6 (Nat.le_of_ble_eq_true rfl) rfl) ?_
  rfl
theorem c_X4_meaningOf (v1 : Int32) (h : mx_H) : mx_C mm_X4_meaningOf [.ref 18, .int v1] h = mx_D (2, mm_X4_meaningOf, 0, [.ref 18, .int v1, mx_junk], []) h := rfl
theorem e_X4_meaningOf_7 (v1 : Int32) (v2 : Int32) (h : mx_H)  : mx_D (2, mm_X4_meaningOf, 7, [.ref 18, .int v1, .int v2], []) h = if v2 < 0 then (mx_C mm_X5_find [.ref 11, .int v1] h).bind (fun o => mx_D (2, mm_X4_meaningOf, 42, [.ref 18, .int v1, .int v2], o.1.toList ++ []) o.2) else (if mx_in v2 8 = true then if (h.1 20 v2.toNatClampNeg) = v1 then if mx_in v2 8 = true then some (some (.int (h.1 21 v2.toNatClampNeg)), h) else none else (mx_D (2, mm_X4_meaningOf, 7, [.ref 18, .int v1, .int (v2 + (-1))], []) h) else none) := by
  refine Eq.trans (q_iload_n dX4_meaningOf_7 rfl) ?_
  refine Eq.trans (q_if_lt 34 dX4_meaningOf_8 rfl) (q_ite2 ?_ ?_)
  · refine Eq.trans (q_aload_n dX4_meaningOf_34 rfl rfl) ?_
    refine Eq.trans (q_getf dX4_meaningOf_35 mx_fld_4_29 (gf_18_2 _)) ?_
    refine Eq.trans (q_iload_n dX4_meaningOf_38 rfl) ?_
    exact q_call0 (as := [.int v1]) (rest := []) dX4_meaningOf_39 mx_inv_4_108 rfl rfl rfl ⟨Nat.le_of_ble_eq_true rfl, Nat.le_of_ble_eq_true rfl, (Nat.le_of_ble_eq_true rfl)⟩
  · refine Eq.trans (q_aload_n dX4_meaningOf_11 rfl rfl) ?_
    refine Eq.trans (q_getf dX4_meaningOf_12 mx_fld_4_15 (gf_18_9 _)) ?_
    refine Eq.trans (q_iload_n dX4_meaningOf_15 rfl) ?_
    refine Eq.trans (q_ld (w := 0) (by decide) dX4_meaningOf_16 (al_20 _ _)) (q_ite ?_)
    refine Eq.trans (q_iload_n dX4_meaningOf_17 rfl) ?_
    refine Eq.trans (q_icmp_ne 28 dX4_meaningOf_18 rfl) (q_ite2 ?_ ?_)
    · refine Eq.trans (q_aload_n dX4_meaningOf_21 rfl rfl) ?_
      refine Eq.trans (q_getf dX4_meaningOf_22 mx_fld_4_18 (gf_18_10 _)) ?_
      refine Eq.trans (q_iload_n dX4_meaningOf_25 rfl) ?_
      refine Eq.trans (q_ld (w := 0) (by decide) dX4_meaningOf_26 (al_21 _ _)) (q_ite ?_)
      exact q_retI dX4_meaningOf_27 rfl
    · refine Eq.trans (q_iinc (x' := (-1)) (L' := [.ref 18, .int v1, .int (v2 + (-1))]) dX4_meaningOf_28 rfl rfl rfl) ?_
      refine Eq.trans (q_goto 7 dX4_meaningOf_31 rfl) ?_
      rfl
theorem e_X4_meaningOf_42 (v1 : Int32) (v2 : Int32) (s0 : Int32) (h : mx_H)  : mx_D (2, mm_X4_meaningOf, 42, [.ref 18, .int v1, .int v2], [.int s0]) h = some (some (.int s0), h) := by
  exact q_retI dX4_meaningOf_42 rfl
theorem e_X4_readLet_0 (rk : Nat) (v1 : Int32) (h : mx_H) (hr0 : mx_rank mm_X4_bracket [.ref 18, .int 40] < rk) : mx_D (rk, mm_X4_readLet, 0, [.ref 18, .int v1, mx_junk, mx_junk, mx_junk], []) h = (mx_C mm_X4_bracket [.ref 18, .int 40] ((mx_u h.1 18 3 ((h.1 18 3) + 1)), h.2.1, h.2.2)).bind (fun o => mx_D (rk, mm_X4_readLet, 16, [.ref 18, .int v1, mx_junk, mx_junk, mx_junk], o.1.toList ++ []) o.2) := by
  refine Eq.trans (q_aload_n dX4_readLet_0 rfl rfl) ?_
  refine Eq.trans (q_dup dX4_readLet_1 rfl) ?_
  refine Eq.trans (q_getf dX4_readLet_2 mx_fld_4_33 (gf_18_3 _)) ?_
  refine Eq.trans (q_iconst (x := 1) dX4_readLet_5 rfl) ?_
  refine Eq.trans (q_iadd dX4_readLet_6) ?_
  refine Eq.trans (q_putf dX4_readLet_7 mx_fld_4_33 (pf_18_3 _ _)) ?_
  refine Eq.trans (q_aload_n dX4_readLet_10 rfl rfl) ?_
  refine Eq.trans (q_bipush (x := 40) dX4_readLet_11 rfl) ?_
  exact q_call0 (as := [.int 40]) (rest := []) dX4_readLet_13 mx_inv_4_43 rfl rfl rfl ⟨Nat.le_of_ble_eq_true rfl, Nat.le_of_ble_eq_true rfl, hr0⟩
theorem c_X4_readLet (v1 : Int32) (h : mx_H) : mx_C mm_X4_readLet [.ref 18, .int v1] h = mx_D ((mx_rank mm_X4_readLet [.ref 18, .int v1]), mm_X4_readLet, 0, [.ref 18, .int v1, mx_junk, mx_junk, mx_junk], []) h := rfl
theorem e_X4_readLet_16 (rk : Nat) (v1 : Int32) (s0 : Int32) (h : mx_H) (hr0 : mx_rank mm_X4_bracket [.ref 18, .int 40] < rk) : mx_D (rk, mm_X4_readLet, 16, [.ref 18, .int v1, mx_junk, mx_junk, mx_junk], [.int s0]) h = if s0 = 0 then mx_D (rk, mm_X4_readLet, 28, [.ref 18, .int v1, mx_junk, mx_junk, mx_junk], []) h else ((mx_C mm_X4_bracket [.ref 18, .int 40] h).bind (fun o => mx_D (rk, mm_X4_readLet, 25, [.ref 18, .int v1, mx_junk, mx_junk, mx_junk], o.1.toList ++ []) o.2)) := by
  refine Eq.trans (q_if_eq 28 dX4_readLet_16 rfl) (q_ite2 ?_ ?_)
  · rfl
  · refine Eq.trans (q_aload_n dX4_readLet_19 rfl rfl) ?_
    refine Eq.trans (q_bipush (x := 40) dX4_readLet_20 rfl) ?_
    exact q_call0 (as := [.int 40]) (rest := []) dX4_readLet_22 mx_inv_4_43 rfl rfl rfl ⟨Nat.le_of_ble_eq_true rfl, Nat.le_of_ble_eq_true rfl, hr0⟩
theorem e_X4_readLet_25 (rk : Nat) (v1 : Int32) (s0 : Int32) (h : mx_H) (hr0 : mx_rank mm_X8_nameAt [.ref 1, .int (h.1 18 3)] < rk) : mx_D (rk, mm_X4_readLet, 25, [.ref 18, .int v1, mx_junk, mx_junk, mx_junk], [.int s0]) h = if s0 = 0 then mx_D (rk, mm_X4_readLet, 28, [.ref 18, .int v1, mx_junk, mx_junk, mx_junk], []) h else ((mx_C mm_X8_nameAt [.ref 1, .int (h.1 18 3)] h).bind (fun o => mx_D (rk, mm_X4_readLet, 41, [.ref 18, .int v1, mx_junk, mx_junk, mx_junk], o.1.toList ++ []) o.2)) := by
  refine Eq.trans (q_if_ne 30 dX4_readLet_25 rfl) (q_ite2 ?_ ?_)
  · rfl
  · refine Eq.trans (q_aload_n dX4_readLet_30 rfl rfl) ?_
    refine Eq.trans (q_getf dX4_readLet_31 mx_fld_4_21 (gf_18_0 _)) ?_
    refine Eq.trans (q_aload_n dX4_readLet_34 rfl rfl) ?_
    refine Eq.trans (q_getf dX4_readLet_35 mx_fld_4_33 (gf_18_3 _)) ?_
    exact q_call0 (as := [.int (h.1 18 3)]) (rest := []) dX4_readLet_38 mx_inv_4_102 rfl rfl rfl ⟨Nat.le_of_ble_eq_true rfl, Nat.le_of_ble_eq_true rfl, hr0⟩
theorem e_X4_readLet_28 (rk : Nat) (v1 : Int32) (h : mx_H)  : mx_D (rk, mm_X4_readLet, 28, [.ref 18, .int v1, mx_junk, mx_junk, mx_junk], []) h = some (some (.int ((-1))), h) := by
  refine Eq.trans (q_iconst (x := (-1)) dX4_readLet_28 rfl) ?_
  exact q_retI dX4_readLet_29 rfl
theorem e_X4_readLet_41 (rk : Nat) (v1 : Int32) (s0 : Int32) (h : mx_H) (hr0 : mx_rank mm_X4_readTerm [.ref 18, .int (v1 + 1)] < rk) : mx_D (rk, mm_X4_readLet, 41, [.ref 18, .int v1, mx_junk, mx_junk, mx_junk], [.int s0]) h = if s0 = 0 then mx_D (rk, mm_X4_readLet, 55, [.ref 18, .int v1, .int s0, mx_junk, mx_junk], []) h else (if (h.1 18 11) < 8 then (mx_C mm_X4_readTerm [.ref 18, .int (v1 + 1)] ((mx_u h.1 18 3 ((h.1 18 3) + 1)), h.2.1, h.2.2)).bind (fun o => mx_D (rk, mm_X4_readLet, 81, [.ref 18, .int v1, .int s0, mx_junk, mx_junk], o.1.toList ++ []) o.2) else (mx_D (rk, mm_X4_readLet, 55, [.ref 18, .int v1, .int s0, mx_junk, mx_junk], []) h)) := by
  refine Eq.trans (q_istore_n (L' := [.ref 18, .int v1, .int s0, mx_junk, mx_junk]) dX4_readLet_41 (Nat.le_of_ble_eq_true rfl) rfl) ?_
  refine Eq.trans (q_iload_n dX4_readLet_42 rfl) ?_
  refine Eq.trans (q_if_eq 55 dX4_readLet_43 rfl) (q_ite2 ?_ ?_)
  · rfl
  · refine Eq.trans (q_aload_n dX4_readLet_46 rfl rfl) ?_
    refine Eq.trans (q_getf dX4_readLet_47 mx_fld_4_37 (gf_18_11 _)) ?_
    refine Eq.trans (q_bipush (x := 8) dX4_readLet_50 rfl) ?_
    refine Eq.trans (q_icmp_lt 64 dX4_readLet_52 rfl) (q_ite2 ?_ ?_)
    · refine Eq.trans (q_aload_n dX4_readLet_64 rfl rfl) ?_
      refine Eq.trans (q_dup dX4_readLet_65 rfl) ?_
      refine Eq.trans (q_getf dX4_readLet_66 mx_fld_4_33 (gf_18_3 _)) ?_
      refine Eq.trans (q_iconst (x := 1) dX4_readLet_69 rfl) ?_
      refine Eq.trans (q_iadd dX4_readLet_70) ?_
      refine Eq.trans (q_putf dX4_readLet_71 mx_fld_4_33 (pf_18_3 _ _)) ?_
      refine Eq.trans (q_aload_n dX4_readLet_74 rfl rfl) ?_
      refine Eq.trans (q_iload_n dX4_readLet_75 rfl) ?_
      refine Eq.trans (q_iconst (x := 1) dX4_readLet_76 rfl) ?_
      refine Eq.trans (q_iadd dX4_readLet_77) ?_
      exact q_call0 (as := [.int (v1 + 1)]) (rest := []) dX4_readLet_78 mx_inv_4_86 rfl rfl rfl ⟨Nat.le_of_ble_eq_true rfl, Nat.le_of_ble_eq_true rfl, hr0⟩
    · rfl
theorem e_X4_readLet_55 (rk : Nat) (v1 : Int32) (v2 : Int32) (h : mx_H) (hr0 : mx_rank mm_X4_noTermAt [.ref 18, .int (h.1 18 3)] < rk) : mx_D (rk, mm_X4_readLet, 55, [.ref 18, .int v1, .int v2, mx_junk, mx_junk], []) h = (mx_C mm_X4_noTermAt [.ref 18, .int (h.1 18 3)] h).bind (fun o => mx_D (rk, mm_X4_readLet, 63, [.ref 18, .int v1, .int v2, mx_junk, mx_junk], o.1.toList ++ []) o.2) := by
  refine Eq.trans (q_aload_n dX4_readLet_55 rfl rfl) ?_
  refine Eq.trans (q_aload_n dX4_readLet_56 rfl rfl) ?_
  refine Eq.trans (q_getf dX4_readLet_57 mx_fld_4_33 (gf_18_3 _)) ?_
  exact q_call0 (as := [.int (h.1 18 3)]) (rest := []) dX4_readLet_60 mx_inv_4_137 rfl rfl rfl ⟨Nat.le_of_ble_eq_true rfl, Nat.le_of_ble_eq_true rfl, hr0⟩
theorem e_X4_readLet_63 (rk : Nat) (v1 : Int32) (v2 : Int32) (s0 : Int32) (h : mx_H)  : mx_D (rk, mm_X4_readLet, 63, [.ref 18, .int v1, .int v2, mx_junk, mx_junk], [.int s0]) h = some (some (.int s0), h) := by
  exact q_retI dX4_readLet_63 rfl
theorem e_X4_readLet_81 (rk : Nat) (v1 : Int32) (v2 : Int32) (s0 : Int32) (h : mx_H) (hr0 : mx_rank mm_X4_bracket [.ref 18, .int 41] < rk) : mx_D (rk, mm_X4_readLet, 81, [.ref 18, .int v1, .int v2, mx_junk, mx_junk], [.int s0]) h = if s0 = ((-1)) then mx_D (rk, mm_X4_readLet, 105, [.ref 18, .int v1, .int v2, .int s0, mx_junk], []) h else ((mx_C mm_X4_bracket [.ref 18, .int 41] h).bind (fun o => mx_D (rk, mm_X4_readLet, 93, [.ref 18, .int v1, .int v2, .int s0, mx_junk], o.1.toList ++ []) o.2)) := by
  refine Eq.trans (q_istore_n (L' := [.ref 18, .int v1, .int v2, .int s0, mx_junk]) dX4_readLet_81 (Nat.le_of_ble_eq_true rfl) rfl) ?_
  refine Eq.trans (q_iload_n dX4_readLet_82 rfl) ?_
  refine Eq.trans (q_iconst (x := (-1)) dX4_readLet_83 rfl) ?_
  refine Eq.trans (q_icmp_eq 105 dX4_readLet_84 rfl) (q_ite2 ?_ ?_)
  · rfl
  · refine Eq.trans (q_aload_n dX4_readLet_87 rfl rfl) ?_
    refine Eq.trans (q_bipush (x := 41) dX4_readLet_88 rfl) ?_
    exact q_call0 (as := [.int 41]) (rest := []) dX4_readLet_90 mx_inv_4_43 rfl rfl rfl ⟨Nat.le_of_ble_eq_true rfl, Nat.le_of_ble_eq_true rfl, hr0⟩
theorem e_X4_readLet_93 (rk : Nat) (v1 : Int32) (v2 : Int32) (v3 : Int32) (s0 : Int32) (h : mx_H) (hr0 : mx_rank mm_X4_bracket [.ref 18, .int 41] < rk) : mx_D (rk, mm_X4_readLet, 93, [.ref 18, .int v1, .int v2, .int v3, mx_junk], [.int s0]) h = if s0 = 0 then mx_D (rk, mm_X4_readLet, 105, [.ref 18, .int v1, .int v2, .int v3, mx_junk], []) h else ((mx_C mm_X4_bracket [.ref 18, .int 41] h).bind (fun o => mx_D (rk, mm_X4_readLet, 102, [.ref 18, .int v1, .int v2, .int v3, mx_junk], o.1.toList ++ []) o.2)) := by
  refine Eq.trans (q_if_eq 105 dX4_readLet_93 rfl) (q_ite2 ?_ ?_)
  · rfl
  · refine Eq.trans (q_aload_n dX4_readLet_96 rfl rfl) ?_
    refine Eq.trans (q_bipush (x := 41) dX4_readLet_97 rfl) ?_
    exact q_call0 (as := [.int 41]) (rest := []) dX4_readLet_99 mx_inv_4_43 rfl rfl rfl ⟨Nat.le_of_ble_eq_true rfl, Nat.le_of_ble_eq_true rfl, hr0⟩
theorem e_X4_readLet_102 (rk : Nat) (v1 : Int32) (v2 : Int32) (v3 : Int32) (s0 : Int32) (h : mx_H) (hr0 : mx_rank mm_X4_readTerm [.ref 18, .int (v1 + 1)] < rk) : mx_D (rk, mm_X4_readLet, 102, [.ref 18, .int v1, .int v2, .int v3, mx_junk], [.int s0]) h = if s0 = 0 then mx_D (rk, mm_X4_readLet, 105, [.ref 18, .int v1, .int v2, .int v3, mx_junk], []) h else (if mx_in (h.1 18 11) 8 = true then if mx_in ((mx_u h.1 20 ((h.1 18 11).toNatClampNeg) v2) 18 11) 8 = true then (mx_C mm_X4_readTerm [.ref 18, .int (v1 + 1)] ((mx_u (mx_u (mx_u h.1 20 ((h.1 18 11).toNatClampNeg) v2) 21 (((mx_u h.1 20 ((h.1 18 11).toNatClampNeg) v2) 18 11).toNatClampNeg) v3) 18 11 (((mx_u (mx_u h.1 20 ((h.1 18 11).toNatClampNeg) v2) 21 (((mx_u h.1 20 ((h.1 18 11).toNatClampNeg) v2) 18 11).toNatClampNeg) v3) 18 11) + 1)), h.2.1, h.2.2)).bind (fun o => mx_D (rk, mm_X4_readLet, 144, [.ref 18, .int v1, .int v2, .int v3, mx_junk], o.1.toList ++ []) o.2) else none else none) := by
  refine Eq.trans (q_if_ne 107 dX4_readLet_102 rfl) (q_ite2 ?_ ?_)
  · rfl
  · refine Eq.trans (q_aload_n dX4_readLet_107 rfl rfl) ?_
    refine Eq.trans (q_getf dX4_readLet_108 mx_fld_4_15 (gf_18_9 _)) ?_
    refine Eq.trans (q_aload_n dX4_readLet_111 rfl rfl) ?_
    refine Eq.trans (q_getf dX4_readLet_112 mx_fld_4_37 (gf_18_11 _)) ?_
    refine Eq.trans (q_iload_n dX4_readLet_115 rfl) ?_
    refine Eq.trans (q_st (w := 0) (by decide) dX4_readLet_116 (as_20 _ _ _)) (q_ite ?_)
    refine Eq.trans (q_aload_n dX4_readLet_117 rfl rfl) ?_
    refine Eq.trans (q_getf dX4_readLet_118 mx_fld_4_18 (gf_18_10 _)) ?_
    refine Eq.trans (q_aload_n dX4_readLet_121 rfl rfl) ?_
    refine Eq.trans (q_getf dX4_readLet_122 mx_fld_4_37 (gf_18_11 _)) ?_
    refine Eq.trans (q_iload_n dX4_readLet_125 rfl) ?_
    refine Eq.trans (q_st (w := 0) (by decide) dX4_readLet_126 (as_21 _ _ _)) (q_ite ?_)
    refine Eq.trans (q_aload_n dX4_readLet_127 rfl rfl) ?_
    refine Eq.trans (q_dup dX4_readLet_128 rfl) ?_
    refine Eq.trans (q_getf dX4_readLet_129 mx_fld_4_37 (gf_18_11 _)) ?_
    refine Eq.trans (q_iconst (x := 1) dX4_readLet_132 rfl) ?_
    refine Eq.trans (q_iadd dX4_readLet_133) ?_
    refine Eq.trans (q_putf dX4_readLet_134 mx_fld_4_37 (pf_18_11 _ _)) ?_
    refine Eq.trans (q_aload_n dX4_readLet_137 rfl rfl) ?_
    refine Eq.trans (q_iload_n dX4_readLet_138 rfl) ?_
    refine Eq.trans (q_iconst (x := 1) dX4_readLet_139 rfl) ?_
    refine Eq.trans (q_iadd dX4_readLet_140) ?_
    exact q_call0 (as := [.int (v1 + 1)]) (rest := []) dX4_readLet_141 mx_inv_4_86 rfl rfl rfl ⟨Nat.le_of_ble_eq_true rfl, Nat.le_of_ble_eq_true rfl, hr0⟩
theorem e_X4_readLet_105 (rk : Nat) (v1 : Int32) (v2 : Int32) (v3 : Int32) (h : mx_H)  : mx_D (rk, mm_X4_readLet, 105, [.ref 18, .int v1, .int v2, .int v3, mx_junk], []) h = some (some (.int ((-1))), h) := by
  refine Eq.trans (q_iconst (x := (-1)) dX4_readLet_105 rfl) ?_
  exact q_retI dX4_readLet_106 rfl
theorem e_X4_readLet_144 (rk : Nat) (v1 : Int32) (v2 : Int32) (v3 : Int32) (s0 : Int32) (h : mx_H) (hr0 : mx_rank mm_X4_bracket [.ref 18, .int 41] < rk) : mx_D (rk, mm_X4_readLet, 144, [.ref 18, .int v1, .int v2, .int v3, mx_junk], [.int s0]) h = if s0 = ((-1)) then mx_D (rk, mm_X4_readLet, 176, [.ref 18, .int v1, .int v2, .int v3, .int s0], []) ((mx_u h.1 18 11 ((h.1 18 11) - 1)), h.2.1, h.2.2) else ((mx_C mm_X4_bracket [.ref 18, .int 41] ((mx_u h.1 18 11 ((h.1 18 11) - 1)), h.2.1, h.2.2)).bind (fun o => mx_D (rk, mm_X4_readLet, 168, [.ref 18, .int v1, .int v2, .int v3, .int s0], o.1.toList ++ []) o.2)) := by
  refine Eq.trans (q_istore (L' := [.ref 18, .int v1, .int v2, .int v3, .int s0]) dX4_readLet_144 (Nat.le_of_ble_eq_true rfl) rfl) ?_
  refine Eq.trans (q_aload_n dX4_readLet_146 rfl rfl) ?_
  refine Eq.trans (q_dup dX4_readLet_147 rfl) ?_
  refine Eq.trans (q_getf dX4_readLet_148 mx_fld_4_37 (gf_18_11 _)) ?_
  refine Eq.trans (q_iconst (x := 1) dX4_readLet_151 rfl) ?_
  refine Eq.trans (q_isub dX4_readLet_152) ?_
  refine Eq.trans (q_putf dX4_readLet_153 mx_fld_4_37 (pf_18_11 _ _)) ?_
  refine Eq.trans (q_iload dX4_readLet_156 rfl) ?_
  refine Eq.trans (q_iconst (x := (-1)) dX4_readLet_158 rfl) ?_
  refine Eq.trans (q_icmp_eq 176 dX4_readLet_159 rfl) (q_ite2 ?_ ?_)
  · rfl
  · refine Eq.trans (q_aload_n dX4_readLet_162 rfl rfl) ?_
    refine Eq.trans (q_bipush (x := 41) dX4_readLet_163 rfl) ?_
    exact q_call0 (as := [.int 41]) (rest := []) dX4_readLet_165 mx_inv_4_43 rfl rfl rfl ⟨Nat.le_of_ble_eq_true rfl, Nat.le_of_ble_eq_true rfl, hr0⟩
theorem e_X4_readLet_168 (rk : Nat) (v1 : Int32) (v2 : Int32) (v3 : Int32) (v4 : Int32) (s0 : Int32) (h : mx_H)  : mx_D (rk, mm_X4_readLet, 168, [.ref 18, .int v1, .int v2, .int v3, .int v4], [.int s0]) h = if s0 = 0 then mx_D (rk, mm_X4_readLet, 176, [.ref 18, .int v1, .int v2, .int v3, .int v4], []) h else (mx_D (rk, mm_X4_readLet, 177, [.ref 18, .int v1, .int v2, .int v3, .int v4], [.int v4]) h) := by
  refine Eq.trans (q_if_eq 176 dX4_readLet_168 rfl) (q_ite2 ?_ ?_)
  · rfl
  · refine Eq.trans (q_iload dX4_readLet_171 rfl) ?_
    refine Eq.trans (q_goto 177 dX4_readLet_173 rfl) ?_
    rfl
theorem e_X4_readLet_176 (rk : Nat) (v1 : Int32) (v2 : Int32) (v3 : Int32) (v4 : Int32) (h : mx_H)  : mx_D (rk, mm_X4_readLet, 176, [.ref 18, .int v1, .int v2, .int v3, .int v4], []) h = mx_D (rk, mm_X4_readLet, 177, [.ref 18, .int v1, .int v2, .int v3, .int v4], [.int ((-1))]) h := by
  refine Eq.trans (q_iconst (x := (-1)) dX4_readLet_176 rfl) ?_
  rfl
theorem e_X4_readLet_177 (rk : Nat) (v1 : Int32) (v2 : Int32) (v3 : Int32) (v4 : Int32) (s0 : Int32) (h : mx_H)  : mx_D (rk, mm_X4_readLet, 177, [.ref 18, .int v1, .int v2, .int v3, .int v4], [.int s0]) h = some (some (.int s0), h) := by
  exact q_retI dX4_readLet_177 rfl
theorem e_X4_readNumbered_0 (rk : Nat) (v1 : Int32) (h : mx_H) (hr0 : mx_rank mm_X4_word [.ref 18, .ref 1003] < rk) : mx_D (rk, mm_X4_readNumbered, 0, [.ref 18, .int v1, mx_junk, mx_junk, mx_junk], []) h = (mx_C mm_X4_word [.ref 18, .ref 1003] ((mx_u h.1 18 3 ((h.1 18 3) + 1)), h.2.1, h.2.2)).bind (fun o => mx_D (rk, mm_X4_readNumbered, 17, [.ref 18, .int v1, mx_junk, mx_junk, mx_junk], o.1.toList ++ []) o.2) := by
  refine Eq.trans (q_aload_n dX4_readNumbered_0 rfl rfl) ?_
  refine Eq.trans (q_dup dX4_readNumbered_1 rfl) ?_
  refine Eq.trans (q_getf dX4_readNumbered_2 mx_fld_4_33 (gf_18_3 _)) ?_
  refine Eq.trans (q_iconst (x := 1) dX4_readNumbered_5 rfl) ?_
  refine Eq.trans (q_iadd dX4_readNumbered_6) ?_
  refine Eq.trans (q_putf dX4_readNumbered_7 mx_fld_4_33 (pf_18_3 _ _)) ?_
  refine Eq.trans (q_aload_n dX4_readNumbered_10 rfl rfl) ?_
  refine Eq.trans (q_gets dX4_readNumbered_11 mx_sta_4_125) ?_
  exact q_call0 (as := [.ref 1003]) (rest := []) dX4_readNumbered_14 mx_inv_4_128 rfl rfl rfl ⟨Nat.le_of_ble_eq_true rfl, Nat.le_of_ble_eq_true rfl, hr0⟩
theorem c_X4_readNumbered (v1 : Int32) (h : mx_H) : mx_C mm_X4_readNumbered [.ref 18, .int v1] h = mx_D ((mx_rank mm_X4_readNumbered [.ref 18, .int v1]), mm_X4_readNumbered, 0, [.ref 18, .int v1, mx_junk, mx_junk, mx_junk], []) h := rfl
theorem e_X4_readNumbered_17 (rk : Nat) (v1 : Int32) (s0 : Int32) (h : mx_H) (hr0 : mx_rank mm_X8_wordAt [.ref 1, .int (h.1 18 3)] < rk) : mx_D (rk, mm_X4_readNumbered, 17, [.ref 18, .int v1, mx_junk, mx_junk, mx_junk], [.int s0]) h = if s0 = 0 then some (some (.int ((-1))), h) else ((mx_C mm_X8_wordAt [.ref 1, .int (h.1 18 3)] h).bind (fun o => mx_D (rk, mm_X4_readNumbered, 33, [.ref 18, .int v1, mx_junk, mx_junk, mx_junk], o.1.toList ++ []) o.2)) := by
  refine Eq.trans (q_if_ne 22 dX4_readNumbered_17 rfl) (q_ite2 ?_ ?_)
  · refine Eq.trans (q_iconst (x := (-1)) dX4_readNumbered_20 rfl) ?_
    exact q_retI dX4_readNumbered_21 rfl
  · refine Eq.trans (q_aload_n dX4_readNumbered_22 rfl rfl) ?_
    refine Eq.trans (q_getf dX4_readNumbered_23 mx_fld_4_21 (gf_18_0 _)) ?_
    refine Eq.trans (q_aload_n dX4_readNumbered_26 rfl rfl) ?_
    refine Eq.trans (q_getf dX4_readNumbered_27 mx_fld_4_33 (gf_18_3 _)) ?_
    exact q_call0 (as := [.int (h.1 18 3)]) (rest := []) dX4_readNumbered_30 mx_inv_4_47 rfl rfl rfl ⟨Nat.le_of_ble_eq_true rfl, Nat.le_of_ble_eq_true rfl, hr0⟩
theorem e_X4_readNumbered_33 (rk : Nat) (v1 : Int32) (s0 : Nat) (hw_s0 : 1000 ≤ s0 ∧ s0 < 1042) (h : mx_H) (hr0 : mx_rank mm_X9_takesNumbers [.ref s0] < rk) : mx_D (rk, mm_X4_readNumbered, 33, [.ref 18, .int v1, mx_junk, mx_junk, mx_junk], [.ref s0]) h = if (.ref s0 : Value) = .null then mx_D (rk, mm_X4_readNumbered, 45, [.ref 18, .int v1, .ref s0, mx_junk, mx_junk], []) h else ((mx_C mm_X9_takesNumbers [.ref s0] h).bind (fun o => mx_D (rk, mm_X4_readNumbered, 42, [.ref 18, .int v1, .ref s0, mx_junk, mx_junk], o.1.toList ++ []) o.2)) := by
  refine Eq.trans (q_astore_n (L' := [.ref 18, .int v1, .ref s0, mx_junk, mx_junk]) dX4_readNumbered_33 rfl (Nat.le_of_ble_eq_true rfl) rfl) ?_
  refine Eq.trans (q_aload_n dX4_readNumbered_34 rfl rfl) ?_
  refine Eq.trans (q_ifnull 45 dX4_readNumbered_35 rfl rfl) (q_ite2 ?_ ?_)
  · rfl
  · refine Eq.trans (q_aload_n dX4_readNumbered_38 rfl rfl) ?_
    exact q_callW (as := []) (rest := []) dX4_readNumbered_39 mx_inv_4_155 hw_s0 rfl rfl ⟨Nat.le_of_ble_eq_true rfl, Nat.le_of_ble_eq_true rfl, hr0⟩
theorem e_X4_readNumbered_42 (rk : Nat) (v1 : Int32) (v2 : Option Nat) (s0 : Int32) (h : mx_H) (hr0 : mx_rank mm_X8_numberAt [.ref 1, .int ((mx_u h.1 18 3 ((h.1 18 3) + 1)) 18 3)] < rk) : mx_D (rk, mm_X4_readNumbered, 42, [.ref 18, .int v1, mx_rf v2, mx_junk, mx_junk], [.int s0]) h = if s0 = 0 then mx_D (rk, mm_X4_readNumbered, 45, [.ref 18, .int v1, mx_rf v2, mx_junk, mx_junk], []) h else ((mx_C mm_X8_numberAt [.ref 1, .int ((mx_u h.1 18 3 ((h.1 18 3) + 1)) 18 3)] ((mx_u h.1 18 3 ((h.1 18 3) + 1)), h.2.1, h.2.2)).bind (fun o => mx_D (rk, mm_X4_readNumbered, 75, [.ref 18, .int v1, mx_rf v2, mx_junk, mx_junk], o.1.toList ++ []) o.2)) := by
  refine Eq.trans (q_if_ne 54 dX4_readNumbered_42 rfl) (q_ite2 ?_ ?_)
  · rfl
  · refine Eq.trans (q_aload_n dX4_readNumbered_54 rfl rfl) ?_
    refine Eq.trans (q_dup dX4_readNumbered_55 rfl) ?_
    refine Eq.trans (q_getf dX4_readNumbered_56 mx_fld_4_33 (gf_18_3 _)) ?_
    refine Eq.trans (q_iconst (x := 1) dX4_readNumbered_59 rfl) ?_
    refine Eq.trans (q_iadd dX4_readNumbered_60) ?_
    refine Eq.trans (q_putf dX4_readNumbered_61 mx_fld_4_33 (pf_18_3 _ _)) ?_
    refine Eq.trans (q_aload_n dX4_readNumbered_64 rfl rfl) ?_
    refine Eq.trans (q_getf dX4_readNumbered_65 mx_fld_4_21 (gf_18_0 _)) ?_
    refine Eq.trans (q_aload_n dX4_readNumbered_68 rfl rfl) ?_
    refine Eq.trans (q_getf dX4_readNumbered_69 mx_fld_4_33 (gf_18_3 _)) ?_
    exact q_call0 (as := [.int ((mx_u h.1 18 3 ((h.1 18 3) + 1)) 18 3)]) (rest := []) dX4_readNumbered_72 mx_inv_4_134 rfl rfl rfl ⟨Nat.le_of_ble_eq_true rfl, Nat.le_of_ble_eq_true rfl, hr0⟩
theorem e_X4_readNumbered_45 (rk : Nat) (v1 : Int32) (v2 : Option Nat) (h : mx_H) (hr0 : mx_rank mm_X4_noTermAt [.ref 18, .int (h.1 18 3)] < rk) : mx_D (rk, mm_X4_readNumbered, 45, [.ref 18, .int v1, mx_rf v2, mx_junk, mx_junk], []) h = (mx_C mm_X4_noTermAt [.ref 18, .int (h.1 18 3)] h).bind (fun o => mx_D (rk, mm_X4_readNumbered, 53, [.ref 18, .int v1, mx_rf v2, mx_junk, mx_junk], o.1.toList ++ []) o.2) := by
  refine Eq.trans (q_aload_n dX4_readNumbered_45 rfl rfl) ?_
  refine Eq.trans (q_aload_n dX4_readNumbered_46 rfl rfl) ?_
  refine Eq.trans (q_getf dX4_readNumbered_47 mx_fld_4_33 (gf_18_3 _)) ?_
  exact q_call0 (as := [.int (h.1 18 3)]) (rest := []) dX4_readNumbered_50 mx_inv_4_137 rfl rfl rfl ⟨Nat.le_of_ble_eq_true rfl, Nat.le_of_ble_eq_true rfl, hr0⟩
theorem e_X4_readNumbered_53 (rk : Nat) (v1 : Int32) (v2 : Option Nat) (s0 : Int32) (h : mx_H)  : mx_D (rk, mm_X4_readNumbered, 53, [.ref 18, .int v1, mx_rf v2, mx_junk, mx_junk], [.int s0]) h = some (some (.int s0), h) := by
  exact q_retI dX4_readNumbered_53 rfl
theorem e_X4_readNumbered_75 (rk : Nat) (v1 : Int32) (v2 : Option Nat) (s0 : Int32) (h : mx_H) (hq0 : mx_wr (mx_rf v2) = true) (hr1 : mx_rank mm_X8_numberAt [.ref 1, .int ((mx_u h.1 18 3 ((h.1 18 3) + 1)) 18 3)] < rk) (hr2 : mx_rank mm_X4_noTermAt [.ref 18, .int (h.1 18 3)] < rk) : mx_D (rk, mm_X4_readNumbered, 75, [.ref 18, .int v1, mx_rf v2, mx_junk, mx_junk], [.int s0]) h = if s0 = ((-1)) then (mx_C mm_X4_noTermAt [.ref 18, .int (h.1 18 3)] h).bind (fun o => mx_D (rk, mm_X4_readNumbered, 89, [.ref 18, .int v1, mx_rf v2, .int s0, mx_junk], o.1.toList ++ []) o.2) else (if (mx_rf v2 : Value) = .ref 1037 then (mx_C mm_X8_numberAt [.ref 1, .int ((mx_u h.1 18 3 ((h.1 18 3) + 1)) 18 3)] ((mx_u h.1 18 3 ((h.1 18 3) + 1)), h.2.1, h.2.2)).bind (fun o => mx_D (rk, mm_X4_readNumbered, 121, [.ref 18, .int v1, mx_rf v2, .int s0, .int 0], o.1.toList ++ []) o.2) else (mx_D (rk, mm_X4_readNumbered, 154, [.ref 18, .int v1, mx_rf v2, .int s0, .int 0], []) ((mx_u h.1 18 3 ((h.1 18 3) + 1)), h.2.1, h.2.2))) := by
  refine Eq.trans (q_istore_n (L' := [.ref 18, .int v1, mx_rf v2, .int s0, mx_junk]) dX4_readNumbered_75 (Nat.le_of_ble_eq_true rfl) (by cases v2 <;> exact rfl)) ?_
  refine Eq.trans (q_iload_n dX4_readNumbered_76 rfl) ?_
  refine Eq.trans (q_iconst (x := (-1)) dX4_readNumbered_77 rfl) ?_
  refine Eq.trans (q_icmp_ne 90 dX4_readNumbered_78 rfl) (q_ite2 ?_ ?_)
  · refine Eq.trans (q_aload_n dX4_readNumbered_81 rfl rfl) ?_
    refine Eq.trans (q_aload_n dX4_readNumbered_82 rfl rfl) ?_
    refine Eq.trans (q_getf dX4_readNumbered_83 mx_fld_4_33 (gf_18_3 _)) ?_
    exact q_call0 (as := [.int (h.1 18 3)]) (rest := []) dX4_readNumbered_86 mx_inv_4_137 rfl rfl rfl ⟨Nat.le_of_ble_eq_true rfl, Nat.le_of_ble_eq_true rfl, hr2⟩
  · refine Eq.trans (q_aload_n dX4_readNumbered_90 rfl rfl) ?_
    refine Eq.trans (q_dup dX4_readNumbered_91 rfl) ?_
    refine Eq.trans (q_getf dX4_readNumbered_92 mx_fld_4_33 (gf_18_3 _)) ?_
    refine Eq.trans (q_iconst (x := 1) dX4_readNumbered_95 rfl) ?_
    refine Eq.trans (q_iadd dX4_readNumbered_96) ?_
    refine Eq.trans (q_putf dX4_readNumbered_97 mx_fld_4_33 (pf_18_3 _ _)) ?_
    refine Eq.trans (q_iconst (x := 0) dX4_readNumbered_100 rfl) ?_
    refine Eq.trans (q_istore (L' := [.ref 18, .int v1, mx_rf v2, .int s0, .int 0]) dX4_readNumbered_101 (Nat.le_of_ble_eq_true rfl) rfl) ?_
    refine Eq.trans (q_aload_n dX4_readNumbered_103 rfl (mx_ar_rf _)) ?_
    refine Eq.trans (q_gets dX4_readNumbered_104 mx_sta_4_185) ?_
    refine Eq.trans (q_acmp_ne 154 dX4_readNumbered_107 hq0 rfl rfl) (q_ite2 ?_ ?_)
    · refine Eq.trans (q_aload_n dX4_readNumbered_110 rfl rfl) ?_
      refine Eq.trans (q_getf dX4_readNumbered_111 mx_fld_4_21 (gf_18_0 _)) ?_
      refine Eq.trans (q_aload_n dX4_readNumbered_114 rfl rfl) ?_
      refine Eq.trans (q_getf dX4_readNumbered_115 mx_fld_4_33 (gf_18_3 _)) ?_
      exact q_call0 (as := [.int ((mx_u h.1 18 3 ((h.1 18 3) + 1)) 18 3)]) (rest := []) dX4_readNumbered_118 mx_inv_4_134 rfl rfl rfl ⟨Nat.le_of_ble_eq_true rfl, Nat.le_of_ble_eq_true rfl, hr1⟩
    · rfl
theorem e_X4_readNumbered_89 (rk : Nat) (v1 : Int32) (v2 : Option Nat) (v3 : Int32) (s0 : Int32) (h : mx_H)  : mx_D (rk, mm_X4_readNumbered, 89, [.ref 18, .int v1, mx_rf v2, .int v3, mx_junk], [.int s0]) h = some (some (.int s0), h) := by
  exact q_retI dX4_readNumbered_89 rfl
theorem e_X4_readNumbered_121 (rk : Nat) (v1 : Int32) (v2 : Option Nat) (v3 : Int32) (v4 : Int32) (s0 : Int32) (h : mx_H)  : mx_D (rk, mm_X4_readNumbered, 121, [.ref 18, .int v1, mx_rf v2, .int v3, .int v4], [.int s0]) h = if s0 = ((-1)) then mx_D (rk, mm_X4_readNumbered, 135, [.ref 18, .int v1, mx_rf v2, .int v3, .int s0], []) h else (if s0 ≤ v3 then mx_D (rk, mm_X4_readNumbered, 154, [.ref 18, .int v1, mx_rf v2, .int v3, .int s0], []) ((mx_u h.1 18 3 ((h.1 18 3) + 1)), h.2.1, h.2.2) else (mx_D (rk, mm_X4_readNumbered, 135, [.ref 18, .int v1, mx_rf v2, .int v3, .int s0], []) h)) := by
  refine Eq.trans (q_istore (L' := [.ref 18, .int v1, mx_rf v2, .int v3, .int s0]) dX4_readNumbered_121 (Nat.le_of_ble_eq_true rfl) rfl) ?_
  refine Eq.trans (q_iload dX4_readNumbered_123 rfl) ?_
  refine Eq.trans (q_iconst (x := (-1)) dX4_readNumbered_125 rfl) ?_
  refine Eq.trans (q_icmp_eq 135 dX4_readNumbered_126 rfl) (q_ite2 ?_ ?_)
  · rfl
  · refine Eq.trans (q_iload dX4_readNumbered_129 rfl) ?_
    refine Eq.trans (q_iload_n dX4_readNumbered_131 rfl) ?_
    refine Eq.trans (q_icmp_le 144 dX4_readNumbered_132 rfl) (q_ite2 ?_ ?_)
    · refine Eq.trans (q_aload_n dX4_readNumbered_144 rfl rfl) ?_
      refine Eq.trans (q_dup dX4_readNumbered_145 rfl) ?_
      refine Eq.trans (q_getf dX4_readNumbered_146 mx_fld_4_33 (gf_18_3 _)) ?_
      refine Eq.trans (q_iconst (x := 1) dX4_readNumbered_149 rfl) ?_
      refine Eq.trans (q_iadd dX4_readNumbered_150) ?_
      refine Eq.trans (q_putf dX4_readNumbered_151 mx_fld_4_33 (pf_18_3 _ _)) ?_
      rfl
    · rfl
theorem e_X4_readNumbered_135 (rk : Nat) (v1 : Int32) (v2 : Option Nat) (v3 : Int32) (v4 : Int32) (h : mx_H) (hr0 : mx_rank mm_X4_noTermAt [.ref 18, .int (h.1 18 3)] < rk) : mx_D (rk, mm_X4_readNumbered, 135, [.ref 18, .int v1, mx_rf v2, .int v3, .int v4], []) h = (mx_C mm_X4_noTermAt [.ref 18, .int (h.1 18 3)] h).bind (fun o => mx_D (rk, mm_X4_readNumbered, 143, [.ref 18, .int v1, mx_rf v2, .int v3, .int v4], o.1.toList ++ []) o.2) := by
  refine Eq.trans (q_aload_n dX4_readNumbered_135 rfl rfl) ?_
  refine Eq.trans (q_aload_n dX4_readNumbered_136 rfl rfl) ?_
  refine Eq.trans (q_getf dX4_readNumbered_137 mx_fld_4_33 (gf_18_3 _)) ?_
  exact q_call0 (as := [.int (h.1 18 3)]) (rest := []) dX4_readNumbered_140 mx_inv_4_137 rfl rfl rfl ⟨Nat.le_of_ble_eq_true rfl, Nat.le_of_ble_eq_true rfl, hr0⟩
theorem e_X4_readNumbered_143 (rk : Nat) (v1 : Int32) (v2 : Option Nat) (v3 : Int32) (v4 : Int32) (s0 : Int32) (h : mx_H)  : mx_D (rk, mm_X4_readNumbered, 143, [.ref 18, .int v1, mx_rf v2, .int v3, .int v4], [.int s0]) h = some (some (.int s0), h) := by
  exact q_retI dX4_readNumbered_143 rfl
theorem e_X4_readNumbered_154 (rk : Nat) (v1 : Int32) (v2 : Option Nat) (v3 : Int32) (v4 : Int32) (h : mx_H) (hr0 : mx_rank mm_X4_bracket [.ref 18, .int 41] < rk) : mx_D (rk, mm_X4_readNumbered, 154, [.ref 18, .int v1, mx_rf v2, .int v3, .int v4], []) h = (mx_C mm_X4_bracket [.ref 18, .int 41] h).bind (fun o => mx_D (rk, mm_X4_readNumbered, 160, [.ref 18, .int v1, mx_rf v2, .int v3, .int v4], o.1.toList ++ []) o.2) := by
  refine Eq.trans (q_aload_n dX4_readNumbered_154 rfl rfl) ?_
  refine Eq.trans (q_bipush (x := 41) dX4_readNumbered_155 rfl) ?_
  exact q_call0 (as := [.int 41]) (rest := []) dX4_readNumbered_157 mx_inv_4_43 rfl rfl rfl ⟨Nat.le_of_ble_eq_true rfl, Nat.le_of_ble_eq_true rfl, hr0⟩
theorem e_X4_readNumbered_160 (rk : Nat) (v1 : Int32) (v2 : Option Nat) (v3 : Int32) (v4 : Int32) (s0 : Int32) (h : mx_H) (hr0 : mx_rank mm_X4_readParts [.ref 18, mx_rf v2, .int v3, .int v4, .int v1] < rk) : mx_D (rk, mm_X4_readNumbered, 160, [.ref 18, .int v1, mx_rf v2, .int v3, .int v4], [.int s0]) h = if s0 = 0 then mx_D (rk, mm_X4_readNumbered, 176, [.ref 18, .int v1, mx_rf v2, .int v3, .int v4], [.int ((-1))]) h else ((mx_C mm_X4_readParts [.ref 18, mx_rf v2, .int v3, .int v4, .int v1] h).bind (fun o => mx_D (rk, mm_X4_readNumbered, 172, [.ref 18, .int v1, mx_rf v2, .int v3, .int v4], o.1.toList ++ []) o.2)) := by
  refine Eq.trans (q_if_eq 175 dX4_readNumbered_160 rfl) (q_ite2 ?_ ?_)
  · refine Eq.trans (q_iconst (x := (-1)) dX4_readNumbered_175 rfl) ?_
    rfl
  · refine Eq.trans (q_aload_n dX4_readNumbered_163 rfl rfl) ?_
    refine Eq.trans (q_aload_n dX4_readNumbered_164 rfl (mx_ar_rf _)) ?_
    refine Eq.trans (q_iload_n dX4_readNumbered_165 rfl) ?_
    refine Eq.trans (q_iload dX4_readNumbered_166 rfl) ?_
    refine Eq.trans (q_iload_n dX4_readNumbered_168 rfl) ?_
    exact q_call0 (as := [mx_rf v2, .int v3, .int v4, .int v1]) (rest := []) dX4_readNumbered_169 mx_inv_4_158 rfl rfl rfl ⟨Nat.le_of_ble_eq_true rfl, (by cases v2 <;> exact Nat.le_of_ble_eq_true rfl), hr0⟩
theorem e_X4_readNumbered_172 (rk : Nat) (v1 : Int32) (v2 : Option Nat) (v3 : Int32) (v4 : Int32) (s0 : Int32) (h : mx_H)  : mx_D (rk, mm_X4_readNumbered, 172, [.ref 18, .int v1, mx_rf v2, .int v3, .int v4], [.int s0]) h = mx_D (rk, mm_X4_readNumbered, 176, [.ref 18, .int v1, mx_rf v2, .int v3, .int v4], [.int s0]) h := by
  refine Eq.trans (q_goto 176 dX4_readNumbered_172 rfl) ?_
  rfl
theorem e_X4_readNumbered_176 (rk : Nat) (v1 : Int32) (v2 : Option Nat) (v3 : Int32) (v4 : Int32) (s0 : Int32) (h : mx_H)  : mx_D (rk, mm_X4_readNumbered, 176, [.ref 18, .int v1, mx_rf v2, .int v3, .int v4], [.int s0]) h = some (some (.int s0), h) := by
  exact q_retI dX4_readNumbered_176 rfl
theorem e_X4_readParts_0 (rk : Nat) (v1 : Option Nat) (v2 : Int32) (v3 : Int32) (v4 : Int32) (h : mx_H)  : mx_D (rk, mm_X4_readParts, 0, [.ref 18, mx_rf v1, .int v2, .int v3, .int v4, mx_junk, mx_junk, mx_junk], []) h = mx_D (rk, mm_X4_readParts, 9, [.ref 18, mx_rf v1, .int v2, .int v3, .int v4, .int (3 * v4), .int 0, mx_junk], []) h := by
  refine Eq.trans (q_iconst (x := 3) dX4_readParts_0 rfl) ?_
  refine Eq.trans (q_iload dX4_readParts_1 rfl) ?_
  refine Eq.trans (q_imul dX4_readParts_3) ?_
  refine Eq.trans (q_istore (L' := [.ref 18, mx_rf v1, .int v2, .int v3, .int v4, .int (3 * v4), mx_junk, mx_junk]) dX4_readParts_4 (Nat.le_of_ble_eq_true rfl) rfl) ?_
  refine Eq.trans (q_iconst (x := 0) dX4_readParts_6 rfl) ?_
  refine Eq.trans (q_istore (L' := [.ref 18, mx_rf v1, .int v2, .int v3, .int v4, .int (3 * v4), .int 0, mx_junk]) dX4_readParts_7 (Nat.le_of_ble_eq_true rfl) rfl) ?_
  rfl
theorem c_X4_readParts (v1 : Option Nat) (v2 : Int32) (v3 : Int32) (v4 : Int32) (h : mx_H) : mx_C mm_X4_readParts [.ref 18, mx_rf v1, .int v2, .int v3, .int v4] h = mx_D ((mx_rank mm_X4_readParts [.ref 18, mx_rf v1, .int v2, .int v3, .int v4]), mm_X4_readParts, 0, [.ref 18, mx_rf v1, .int v2, .int v3, .int v4, mx_junk, mx_junk, mx_junk], []) h := (by cases v1 <;> exact rfl)
theorem e_X4_readParts_9 (rk : Nat) (v1 : Nat) (hw_v1 : 1000 ≤ v1 ∧ v1 < 1042) (v2 : Int32) (v3 : Int32) (v4 : Int32) (v5 : Int32) (v6 : Int32) (v7 : Value) (h : mx_H) (hr0 : mx_rank mm_X4_readTerm [.ref 18, .int (v4 + 1)] < rk) : mx_D (rk, mm_X4_readParts, 9, [.ref 18, .ref v1, .int v2, .int v3, .int v4, .int v5, .int v6, v7], []) h = if ((mx_wsh.getD (v1 - 1000) (0, 0)).2) ≤ v6 then mx_D (rk, mm_X4_readParts, 90, [.ref 18, .ref v1, .int v2, .int v3, .int v4, .int v5, .int v6, v7], []) h else (if 3 ≤ v6 then mx_D (rk, mm_X4_readParts, 90, [.ref 18, .ref v1, .int v2, .int v3, .int v4, .int v5, .int v6, v7], []) h else ((mx_C mm_X4_readTerm [.ref 18, .int (v4 + 1)] h).bind (fun o => mx_D (rk, mm_X4_readParts, 47, [.ref 18, .ref v1, .int v2, .int v3, .int v4, .int v5, .int v6, .int (h.1 18 3)], o.1.toList ++ [.int (v5 + v6), .ref 19]) o.2))) := by
  refine Eq.trans (q_iload dX4_readParts_9 rfl) ?_
  refine Eq.trans (q_aload_n dX4_readParts_11 rfl rfl) ?_
  refine Eq.trans (q_getw dX4_readParts_12 mx_fld_4_153 hw_v1 rfl) ?_
  refine Eq.trans (q_icmp_ge 90 dX4_readParts_15 rfl) (q_ite2 ?_ ?_)
  · rfl
  · refine Eq.trans (q_iload dX4_readParts_18 rfl) ?_
    refine Eq.trans (q_iconst (x := 3) dX4_readParts_20 rfl) ?_
    refine Eq.trans (q_icmp_ge 90 dX4_readParts_21 rfl) (q_ite2 ?_ ?_)
    · rfl
    · refine Eq.trans (q_aload_n dX4_readParts_24 rfl rfl) ?_
      refine Eq.trans (q_getf dX4_readParts_25 mx_fld_4_33 (gf_18_3 _)) ?_
      refine Eq.trans (q_istore (L' := [.ref 18, .ref v1, .int v2, .int v3, .int v4, .int v5, .int v6, .int (h.1 18 3)]) dX4_readParts_28 (Nat.le_of_ble_eq_true rfl) rfl) ?_
      refine Eq.trans (q_aload_n dX4_readParts_30 rfl rfl) ?_
      refine Eq.trans (q_getf dX4_readParts_31 mx_fld_4_9 (gf_18_8 _)) ?_
      refine Eq.trans (q_iload dX4_readParts_34 rfl) ?_
      refine Eq.trans (q_iload dX4_readParts_36 rfl) ?_
      refine Eq.trans (q_iadd dX4_readParts_38) ?_
      refine Eq.trans (q_aload_n dX4_readParts_39 rfl rfl) ?_
      refine Eq.trans (q_iload dX4_readParts_40 rfl) ?_
      refine Eq.trans (q_iconst (x := 1) dX4_readParts_42 rfl) ?_
      refine Eq.trans (q_iadd dX4_readParts_43) ?_
      exact q_call0 (as := [.int (v4 + 1)]) (rest := [.int (v5 + v6), .ref 19]) dX4_readParts_44 mx_inv_4_86 rfl rfl rfl ⟨Nat.le_of_ble_eq_true rfl, Nat.le_of_ble_eq_true rfl, hr0⟩
theorem e_X4_readParts_47 (rk : Nat) (v1 : Option Nat) (v2 : Int32) (v3 : Int32) (v4 : Int32) (v5 : Int32) (v6 : Int32) (v7 : Int32) (s1 : Int32) (s2 : Int32) (h : mx_H) (hr0 : mx_rank mm_X4_fits [.ref 18, mx_rf v1, .int v6, .int v5, .int v2] < rk) : mx_D (rk, mm_X4_readParts, 47, [.ref 18, mx_rf v1, .int v2, .int v3, .int v4, .int v5, .int v6, .int v7], [.int s2, .int s1, .ref 19]) h = if mx_in s1 27 = true then if mx_in (v5 + v6) 27 = true then if ((mx_u h.1 19 s1.toNatClampNeg s2) 19 ((v5 + v6).toNatClampNeg)) = ((-1)) then some (some (.int ((-1))), ((mx_u h.1 19 s1.toNatClampNeg s2), h.2.1, h.2.2)) else ((mx_C mm_X4_fits [.ref 18, mx_rf v1, .int v6, .int v5, .int v2] ((mx_u h.1 19 s1.toNatClampNeg s2), h.2.1, h.2.2)).bind (fun o => mx_D (rk, mm_X4_readParts, 74, [.ref 18, mx_rf v1, .int v2, .int v3, .int v4, .int v5, .int v6, .int v7], o.1.toList ++ []) o.2)) else none else none := by
  refine Eq.trans (q_st (w := 0) (by decide) dX4_readParts_47 (as_19 _ _ _)) (q_ite ?_)
  refine Eq.trans (q_aload_n dX4_readParts_48 rfl rfl) ?_
  refine Eq.trans (q_getf dX4_readParts_49 mx_fld_4_9 (gf_18_8 _)) ?_
  refine Eq.trans (q_iload dX4_readParts_52 rfl) ?_
  refine Eq.trans (q_iload dX4_readParts_54 rfl) ?_
  refine Eq.trans (q_iadd dX4_readParts_56) ?_
  refine Eq.trans (q_ld (w := 0) (by decide) dX4_readParts_57 (al_19 _ _)) (q_ite ?_)
  refine Eq.trans (q_iconst (x := (-1)) dX4_readParts_58 rfl) ?_
  refine Eq.trans (q_icmp_ne 64 dX4_readParts_59 rfl) (q_ite2 ?_ ?_)
  · refine Eq.trans (q_iconst (x := (-1)) dX4_readParts_62 rfl) ?_
    exact q_retI dX4_readParts_63 rfl
  · refine Eq.trans (q_aload_n dX4_readParts_64 rfl rfl) ?_
    refine Eq.trans (q_aload_n dX4_readParts_65 rfl (mx_ar_rf _)) ?_
    refine Eq.trans (q_iload dX4_readParts_66 rfl) ?_
    refine Eq.trans (q_iload dX4_readParts_68 rfl) ?_
    refine Eq.trans (q_iload_n dX4_readParts_70 rfl) ?_
    exact q_call0 (as := [mx_rf v1, .int v6, .int v5, .int v2]) (rest := []) dX4_readParts_71 mx_inv_4_188 rfl rfl rfl ⟨Nat.le_of_ble_eq_true rfl, (by cases v1 <;> exact Nat.le_of_ble_eq_true rfl), hr0⟩
theorem e_X4_readParts_74 (rk : Nat) (v1 : Option Nat) (v2 : Int32) (v3 : Int32) (v4 : Int32) (v5 : Int32) (v6 : Int32) (v7 : Int32) (s0 : Int32) (h : mx_H) (hr0 : mx_rank mm_X4_noTermAt [.ref 18, .int v7] < rk) : mx_D (rk, mm_X4_readParts, 74, [.ref 18, mx_rf v1, .int v2, .int v3, .int v4, .int v5, .int v6, .int v7], [.int s0]) h = if s0 = 0 then (mx_C mm_X4_noTermAt [.ref 18, .int v7] h).bind (fun o => mx_D (rk, mm_X4_readParts, 83, [.ref 18, mx_rf v1, .int v2, .int v3, .int v4, .int v5, .int v6, .int v7], o.1.toList ++ []) o.2) else (mx_D (rk, mm_X4_readParts, 9, [.ref 18, mx_rf v1, .int v2, .int v3, .int v4, .int v5, .int (v6 + 1), .int v7], []) h) := by
  refine Eq.trans (q_if_ne 84 dX4_readParts_74 rfl) (q_ite2 ?_ ?_)
  · refine Eq.trans (q_aload_n dX4_readParts_77 rfl rfl) ?_
    refine Eq.trans (q_iload dX4_readParts_78 rfl) ?_
    exact q_call0 (as := [.int v7]) (rest := []) dX4_readParts_80 mx_inv_4_137 rfl rfl rfl ⟨Nat.le_of_ble_eq_true rfl, Nat.le_of_ble_eq_true rfl, hr0⟩
  · refine Eq.trans (q_iinc (x' := 1) (L' := [.ref 18, mx_rf v1, .int v2, .int v3, .int v4, .int v5, .int (v6 + 1), .int v7]) dX4_readParts_84 rfl rfl rfl) ?_
    refine Eq.trans (q_goto 9 dX4_readParts_87 rfl) ?_
    rfl
theorem e_X4_readParts_83 (rk : Nat) (v1 : Option Nat) (v2 : Int32) (v3 : Int32) (v4 : Int32) (v5 : Int32) (v6 : Int32) (v7 : Int32) (s0 : Int32) (h : mx_H)  : mx_D (rk, mm_X4_readParts, 83, [.ref 18, mx_rf v1, .int v2, .int v3, .int v4, .int v5, .int v6, .int v7], [.int s0]) h = some (some (.int s0), h) := by
  exact q_retI dX4_readParts_83 rfl
theorem e_X4_readParts_90 (rk : Nat) (v1 : Option Nat) (v2 : Int32) (v3 : Int32) (v4 : Int32) (v5 : Int32) (v6 : Int32) (v7 : Value) (h : mx_H) (hr0 : mx_rank mm_X4_bracket [.ref 18, .int 41] < rk) : mx_D (rk, mm_X4_readParts, 90, [.ref 18, mx_rf v1, .int v2, .int v3, .int v4, .int v5, .int v6, v7], []) h = (mx_C mm_X4_bracket [.ref 18, .int 41] h).bind (fun o => mx_D (rk, mm_X4_readParts, 96, [.ref 18, mx_rf v1, .int v2, .int v3, .int v4, .int v5, .int v6, v7], o.1.toList ++ []) o.2) := by
  refine Eq.trans (q_aload_n dX4_readParts_90 rfl rfl) ?_
  refine Eq.trans (q_bipush (x := 41) dX4_readParts_91 rfl) ?_
  exact q_call0 (as := [.int 41]) (rest := []) dX4_readParts_93 mx_inv_4_43 rfl rfl rfl ⟨Nat.le_of_ble_eq_true rfl, Nat.le_of_ble_eq_true rfl, hr0⟩
theorem e_X4_readParts_96 (rk : Nat) (v1 : Option Nat) (v2 : Int32) (v3 : Int32) (v4 : Int32) (v5 : Int32) (v6 : Int32) (v7 : Value) (s0 : Int32) (h : mx_H) (hr0 : mx_rank mm_X4_resultSort [.ref 18, mx_rf v1, .int v5, .int v2, .int v3] < rk) : mx_D (rk, mm_X4_readParts, 96, [.ref 18, mx_rf v1, .int v2, .int v3, .int v4, .int v5, .int v6, v7], [.int s0]) h = if s0 = 0 then some (some (.int ((-1))), h) else ((mx_C mm_X4_resultSort [.ref 18, mx_rf v1, .int v5, .int v2, .int v3] h).bind (fun o => mx_D (rk, mm_X4_readParts, 117, [.ref 18, mx_rf v1, .int v2, .int v3, .int v4, .int v5, .int v6, v7], o.1.toList ++ [.int v3, .int v2, mx_rf v1, .ref 6]) o.2)) := by
  refine Eq.trans (q_if_ne 101 dX4_readParts_96 rfl) (q_ite2 ?_ ?_)
  · refine Eq.trans (q_iconst (x := (-1)) dX4_readParts_99 rfl) ?_
    exact q_retI dX4_readParts_100 rfl
  · refine Eq.trans (q_aload_n dX4_readParts_101 rfl rfl) ?_
    refine Eq.trans (q_getf dX4_readParts_102 mx_fld_4_25 (gf_18_1 _)) ?_
    refine Eq.trans (q_aload_n dX4_readParts_105 rfl (mx_ar_rf _)) ?_
    refine Eq.trans (q_iload_n dX4_readParts_106 rfl) ?_
    refine Eq.trans (q_iload_n dX4_readParts_107 rfl) ?_
    refine Eq.trans (q_aload_n dX4_readParts_108 rfl rfl) ?_
    refine Eq.trans (q_aload_n dX4_readParts_109 rfl (mx_ar_rf _)) ?_
    refine Eq.trans (q_iload dX4_readParts_110 rfl) ?_
    refine Eq.trans (q_iload_n dX4_readParts_112 rfl) ?_
    refine Eq.trans (q_iload_n dX4_readParts_113 rfl) ?_
    exact q_call0 (as := [mx_rf v1, .int v5, .int v2, .int v3]) (rest := [.int v3, .int v2, mx_rf v1, .ref 6]) dX4_readParts_114 mx_inv_4_192 rfl rfl rfl ⟨(by cases v1 <;> exact Nat.le_of_ble_eq_true rfl), (by cases v1 <;> exact Nat.le_of_ble_eq_true rfl), hr0⟩
theorem e_X4_readParts_117 (rk : Nat) (v1 : Option Nat) (v2 : Int32) (v3 : Int32) (v4 : Int32) (v5 : Int32) (v6 : Int32) (v7 : Value) (s1 : Option Nat) (s2 : Int32) (s3 : Int32) (s4 : Int32) (h : mx_H) (hr0 : mx_rank mm_X7_prepare [.ref 6, mx_rf s1, .int s2, .int s3, .int s4] < rk) : mx_D (rk, mm_X4_readParts, 117, [.ref 18, mx_rf v1, .int v2, .int v3, .int v4, .int v5, .int v6, v7], [.int s4, .int s3, .int s2, mx_rf s1, .ref 6]) h = (mx_C mm_X7_prepare [.ref 6, mx_rf s1, .int s2, .int s3, .int s4] h).bind (fun o => mx_D (rk, mm_X4_readParts, 120, [.ref 18, mx_rf v1, .int v2, .int v3, .int v4, .int v5, .int v6, v7], o.1.toList ++ []) o.2) := by
  exact q_call0 (as := [mx_rf s1, .int s2, .int s3, .int s4]) (rest := []) dX4_readParts_117 mx_inv_4_168 rfl rfl rfl ⟨Nat.le_of_ble_eq_true rfl, (by cases s1 <;> exact Nat.le_of_ble_eq_true rfl), hr0⟩
theorem e_X4_readParts_120 (rk : Nat) (v1 : Option Nat) (v2 : Int32) (v3 : Int32) (v4 : Int32) (v5 : Int32) (v6 : Int32) (v7 : Value) (h : mx_H)  : mx_D (rk, mm_X4_readParts, 120, [.ref 18, mx_rf v1, .int v2, .int v3, .int v4, .int v5, .int v6, v7], []) h = mx_D (rk, mm_X4_readParts, 123, [.ref 18, mx_rf v1, .int v2, .int v3, .int v4, .int v5, .int 0, v7], []) h := by
  refine Eq.trans (q_iconst (x := 0) dX4_readParts_120 rfl) ?_
  refine Eq.trans (q_istore (L' := [.ref 18, mx_rf v1, .int v2, .int v3, .int v4, .int v5, .int 0, v7]) dX4_readParts_121 (Nat.le_of_ble_eq_true rfl) rfl) ?_
  rfl
theorem e_X4_readParts_123 (rk : Nat) (v1 : Nat) (hw_v1 : 1000 ≤ v1 ∧ v1 < 1042) (v2 : Int32) (v3 : Int32) (v4 : Int32) (v5 : Int32) (v6 : Int32) (v7 : Value) (h : mx_H) (hr0 : mx_rank mm_X7_preparePart [.ref 6, .int v6, .int (h.1 19 ((v5 + v6).toNatClampNeg))] < rk) : mx_D (rk, mm_X4_readParts, 123, [.ref 18, .ref v1, .int v2, .int v3, .int v4, .int v5, .int v6, v7], []) h = if ((mx_wsh.getD (v1 - 1000) (0, 0)).2) ≤ v6 then mx_D (rk, mm_X4_readParts, 163, [.ref 18, .ref v1, .int v2, .int v3, .int v4, .int v5, .int v6, v7], []) h else (if 3 ≤ v6 then mx_D (rk, mm_X4_readParts, 163, [.ref 18, .ref v1, .int v2, .int v3, .int v4, .int v5, .int v6, v7], []) h else (if mx_in (v5 + v6) 27 = true then (mx_C mm_X7_preparePart [.ref 6, .int v6, .int (h.1 19 ((v5 + v6).toNatClampNeg))] h).bind (fun o => mx_D (rk, mm_X4_readParts, 157, [.ref 18, .ref v1, .int v2, .int v3, .int v4, .int v5, .int v6, v7], o.1.toList ++ []) o.2) else none)) := by
  refine Eq.trans (q_iload dX4_readParts_123 rfl) ?_
  refine Eq.trans (q_aload_n dX4_readParts_125 rfl rfl) ?_
  refine Eq.trans (q_getw dX4_readParts_126 mx_fld_4_153 hw_v1 rfl) ?_
  refine Eq.trans (q_icmp_ge 163 dX4_readParts_129 rfl) (q_ite2 ?_ ?_)
  · rfl
  · refine Eq.trans (q_iload dX4_readParts_132 rfl) ?_
    refine Eq.trans (q_iconst (x := 3) dX4_readParts_134 rfl) ?_
    refine Eq.trans (q_icmp_ge 163 dX4_readParts_135 rfl) (q_ite2 ?_ ?_)
    · rfl
    · refine Eq.trans (q_aload_n dX4_readParts_138 rfl rfl) ?_
      refine Eq.trans (q_getf dX4_readParts_139 mx_fld_4_25 (gf_18_1 _)) ?_
      refine Eq.trans (q_iload dX4_readParts_142 rfl) ?_
      refine Eq.trans (q_aload_n dX4_readParts_144 rfl rfl) ?_
      refine Eq.trans (q_getf dX4_readParts_145 mx_fld_4_9 (gf_18_8 _)) ?_
      refine Eq.trans (q_iload dX4_readParts_148 rfl) ?_
      refine Eq.trans (q_iload dX4_readParts_150 rfl) ?_
      refine Eq.trans (q_iadd dX4_readParts_152) ?_
      refine Eq.trans (q_ld (w := 0) (by decide) dX4_readParts_153 (al_19 _ _)) (q_ite ?_)
      exact q_call0 (as := [.int v6, .int (h.1 19 ((v5 + v6).toNatClampNeg))]) (rest := []) dX4_readParts_154 mx_inv_4_195 rfl rfl rfl ⟨Nat.le_of_ble_eq_true rfl, Nat.le_of_ble_eq_true rfl, hr0⟩
theorem e_X4_readParts_157 (rk : Nat) (v1 : Option Nat) (v2 : Int32) (v3 : Int32) (v4 : Int32) (v5 : Int32) (v6 : Int32) (v7 : Value) (h : mx_H)  : mx_D (rk, mm_X4_readParts, 157, [.ref 18, mx_rf v1, .int v2, .int v3, .int v4, .int v5, .int v6, v7], []) h = mx_D (rk, mm_X4_readParts, 123, [.ref 18, mx_rf v1, .int v2, .int v3, .int v4, .int v5, .int (v6 + 1), v7], []) h := by
  refine Eq.trans (q_iinc (x' := 1) (L' := [.ref 18, mx_rf v1, .int v2, .int v3, .int v4, .int v5, .int (v6 + 1), v7]) dX4_readParts_157 rfl rfl rfl) ?_
  refine Eq.trans (q_goto 123 dX4_readParts_160 rfl) ?_
  rfl
theorem e_X4_readParts_163 (rk : Nat) (v1 : Option Nat) (v2 : Int32) (v3 : Int32) (v4 : Int32) (v5 : Int32) (v6 : Int32) (v7 : Value) (h : mx_H) (hr0 : mx_rank mm_X7_make [.ref 6] < rk) : mx_D (rk, mm_X4_readParts, 163, [.ref 18, mx_rf v1, .int v2, .int v3, .int v4, .int v5, .int v6, v7], []) h = (mx_C mm_X7_make [.ref 6] h).bind (fun o => mx_D (rk, mm_X4_readParts, 170, [.ref 18, mx_rf v1, .int v2, .int v3, .int v4, .int v5, .int v6, v7], o.1.toList ++ []) o.2) := by
  refine Eq.trans (q_aload_n dX4_readParts_163 rfl rfl) ?_
  refine Eq.trans (q_getf dX4_readParts_164 mx_fld_4_25 (gf_18_1 _)) ?_
  exact q_call0 (as := []) (rest := []) dX4_readParts_167 mx_inv_4_172 rfl rfl rfl ⟨Nat.le_of_ble_eq_true rfl, Nat.le_of_ble_eq_true rfl, hr0⟩
theorem e_X4_readParts_170 (rk : Nat) (v1 : Option Nat) (v2 : Int32) (v3 : Int32) (v4 : Int32) (v5 : Int32) (v6 : Int32) (v7 : Value) (s0 : Int32) (h : mx_H)  : mx_D (rk, mm_X4_readParts, 170, [.ref 18, mx_rf v1, .int v2, .int v3, .int v4, .int v5, .int v6, v7], [.int s0]) h = some (some (.int s0), h) := by
  exact q_retI dX4_readParts_170 rfl
theorem e_X4_fits_0 (v1 : Option Nat) (v2 : Int32) (v3 : Int32) (v4 : Int32) (h : mx_H)  : mx_D (2, mm_X4_fits, 0, [.ref 18, mx_rf v1, .int v2, .int v3, .int v4, mx_junk, mx_junk], []) h = if mx_in (v3 + v2) 27 = true then (mx_C mm_X7_sortOf [.ref 6, .int (h.1 19 ((v3 + v2).toNatClampNeg))] h).bind (fun o => mx_D (2, mm_X4_fits, 15, [.ref 18, mx_rf v1, .int v2, .int v3, .int v4, mx_junk, mx_junk], o.1.toList ++ []) o.2) else none := by
  refine Eq.trans (q_aload_n dX4_fits_0 rfl rfl) ?_
  refine Eq.trans (q_getf dX4_fits_1 mx_fld_4_25 (gf_18_1 _)) ?_
  refine Eq.trans (q_aload_n dX4_fits_4 rfl rfl) ?_
  refine Eq.trans (q_getf dX4_fits_5 mx_fld_4_9 (gf_18_8 _)) ?_
  refine Eq.trans (q_iload_n dX4_fits_8 rfl) ?_
  refine Eq.trans (q_iload_n dX4_fits_9 rfl) ?_
  refine Eq.trans (q_iadd dX4_fits_10) ?_
  refine Eq.trans (q_ld (w := 0) (by decide) dX4_fits_11 (al_19 _ _)) (q_ite ?_)
  exact q_call0 (as := [.int (h.1 19 ((v3 + v2).toNatClampNeg))]) (rest := []) dX4_fits_12 mx_inv_4_93 rfl rfl rfl ⟨Nat.le_of_ble_eq_true rfl, Nat.le_of_ble_eq_true rfl, (Nat.le_of_ble_eq_true rfl)⟩
