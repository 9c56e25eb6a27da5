theorem e_X11_readIndexed_26 (v1 : Int32) (s0 : Int32) (h : mx_H)  : mx_D (7, mm_X11_readIndexed, 26, [.ref 47, .int v1, mx_junk, mx_junk, mx_junk, mx_junk], [.int s0]) h = if s0 = 0 then mx_D (7, mm_X11_readIndexed, 56, [.ref 47, .int v1, .int s0, mx_junk, mx_junk, mx_junk], []) h else (if (lg_cmp (h.2.1 47 5) 32760367481649253) = 0 then if (lg_cmp (h.2.1 47 6) 0) = 0 then mx_D (7, mm_X11_readIndexed, 119, [.ref 47, .int v1, .int s0, mx_junk, mx_junk, mx_junk], [.int 30]) h else (mx_D (7, mm_X11_readIndexed, 56, [.ref 47, .int v1, .int s0, mx_junk, mx_junk, mx_junk], []) h) else (mx_D (7, mm_X11_readIndexed, 56, [.ref 47, .int v1, .int s0, mx_junk, mx_junk, mx_junk], []) h)) := by
  refine Eq.trans (q_istore_n (L' := [.ref 47, .int v1, .int s0, mx_junk, mx_junk, mx_junk]) dX11_readIndexed_26 (Nat.le_of_ble_eq_true rfl) rfl) ?_
  refine Eq.trans (q_iload_n dX11_readIndexed_27 rfl) ?_
  refine Eq.trans (q_if_eq 56 dX11_readIndexed_28 rfl) (q_ite2 ?_ ?_)
  · rfl
  · refine Eq.trans (q_aload_n dX11_readIndexed_31 rfl rfl) ?_
    refine Eq.trans (q_getf dX11_readIndexed_32 mx_fld_11_105 (gf_47_5 _)) ?_
    refine Eq.trans (q_ldc2 dX11_readIndexed_35 mx_ldc2_11_245) ?_
    refine Eq.trans (q_lcmp dX11_readIndexed_38) ?_
    refine Eq.trans (q_if_ne 56 dX11_readIndexed_39 rfl) (q_ite2 ?_ ?_)
    · refine Eq.trans (q_aload_n dX11_readIndexed_42 rfl rfl) ?_
      refine Eq.trans (q_getf dX11_readIndexed_43 mx_fld_11_109 (gf_47_6 _)) ?_
      refine Eq.trans (q_lconst (x := 0) dX11_readIndexed_46 rfl) ?_
      refine Eq.trans (q_lcmp dX11_readIndexed_47) ?_
      refine Eq.trans (q_if_ne 56 dX11_readIndexed_48 rfl) (q_ite2 ?_ ?_)
      · refine Eq.trans (q_bipush (x := 30) dX11_readIndexed_51 rfl) ?_
        refine Eq.trans (q_goto 119 dX11_readIndexed_53 rfl) ?_
        rfl
      · rfl
    · rfl
theorem e_X11_readIndexed_56 (v1 : Int32) (v2 : Int32) (h : mx_H)  : mx_D (7, mm_X11_readIndexed, 56, [.ref 47, .int v1, .int v2, mx_junk, mx_junk, mx_junk], []) h = if v2 = 0 then mx_D (7, mm_X11_readIndexed, 87, [.ref 47, .int v1, .int v2, mx_junk, mx_junk, mx_junk], []) h else (if (lg_cmp (h.2.1 47 5) 8392569366170985850) = 0 then if (lg_cmp (h.2.1 47 6) 6581861) = 0 then mx_D (7, mm_X11_readIndexed, 119, [.ref 47, .int v1, .int v2, mx_junk, mx_junk, mx_junk], [.int 31]) h else (mx_D (7, mm_X11_readIndexed, 87, [.ref 47, .int v1, .int v2, mx_junk, mx_junk, mx_junk], []) h) else (mx_D (7, mm_X11_readIndexed, 87, [.ref 47, .int v1, .int v2, mx_junk, mx_junk, mx_junk], []) h)) := by
  refine Eq.trans (q_iload_n dX11_readIndexed_56 rfl) ?_
  refine Eq.trans (q_if_eq 87 dX11_readIndexed_57 rfl) (q_ite2 ?_ ?_)
  · rfl
  · refine Eq.trans (q_aload_n dX11_readIndexed_60 rfl rfl) ?_
    refine Eq.trans (q_getf dX11_readIndexed_61 mx_fld_11_105 (gf_47_5 _)) ?_
    refine Eq.trans (q_ldc2 dX11_readIndexed_64 mx_ldc2_11_247) ?_
    refine Eq.trans (q_lcmp dX11_readIndexed_67) ?_
    refine Eq.trans (q_if_ne 87 dX11_readIndexed_68 rfl) (q_ite2 ?_ ?_)
    · refine Eq.trans (q_aload_n dX11_readIndexed_71 rfl rfl) ?_
      refine Eq.trans (q_getf dX11_readIndexed_72 mx_fld_11_109 (gf_47_6 _)) ?_
      refine Eq.trans (q_ldc2 dX11_readIndexed_75 mx_ldc2_11_249) ?_
      refine Eq.trans (q_lcmp dX11_readIndexed_78) ?_
      refine Eq.trans (q_if_ne 87 dX11_readIndexed_79 rfl) (q_ite2 ?_ ?_)
      · refine Eq.trans (q_bipush (x := 31) dX11_readIndexed_82 rfl) ?_
        refine Eq.trans (q_goto 119 dX11_readIndexed_84 rfl) ?_
        rfl
      · rfl
    · rfl
theorem e_X11_readIndexed_87 (v1 : Int32) (v2 : Int32) (h : mx_H)  : mx_D (7, mm_X11_readIndexed, 87, [.ref 47, .int v1, .int v2, mx_junk, mx_junk, mx_junk], []) h = if v2 = 0 then mx_D (7, mm_X11_readIndexed, 118, [.ref 47, .int v1, .int v2, mx_junk, mx_junk, mx_junk], []) h else (if (lg_cmp (h.2.1 47 5) 8392569366153488755) = 0 then if (lg_cmp (h.2.1 47 6) 6581861) = 0 then mx_D (7, mm_X11_readIndexed, 119, [.ref 47, .int v1, .int v2, mx_junk, mx_junk, mx_junk], [.int 32]) h else (mx_D (7, mm_X11_readIndexed, 118, [.ref 47, .int v1, .int v2, mx_junk, mx_junk, mx_junk], []) h) else (mx_D (7, mm_X11_readIndexed, 118, [.ref 47, .int v1, .int v2, mx_junk, mx_junk, mx_junk], []) h)) := by
  refine Eq.trans (q_iload_n dX11_readIndexed_87 rfl) ?_
  refine Eq.trans (q_if_eq 118 dX11_readIndexed_88 rfl) (q_ite2 ?_ ?_)
  · rfl
  · refine Eq.trans (q_aload_n dX11_readIndexed_91 rfl rfl) ?_
    refine Eq.trans (q_getf dX11_readIndexed_92 mx_fld_11_105 (gf_47_5 _)) ?_
    refine Eq.trans (q_ldc2 dX11_readIndexed_95 mx_ldc2_11_251) ?_
    refine Eq.trans (q_lcmp dX11_readIndexed_98) ?_
    refine Eq.trans (q_if_ne 118 dX11_readIndexed_99 rfl) (q_ite2 ?_ ?_)
    · refine Eq.trans (q_aload_n dX11_readIndexed_102 rfl rfl) ?_
      refine Eq.trans (q_getf dX11_readIndexed_103 mx_fld_11_109 (gf_47_6 _)) ?_
      refine Eq.trans (q_ldc2 dX11_readIndexed_106 mx_ldc2_11_249) ?_
      refine Eq.trans (q_lcmp dX11_readIndexed_109) ?_
      refine Eq.trans (q_if_ne 118 dX11_readIndexed_110 rfl) (q_ite2 ?_ ?_)
      · refine Eq.trans (q_bipush (x := 32) dX11_readIndexed_113 rfl) ?_
        refine Eq.trans (q_goto 119 dX11_readIndexed_115 rfl) ?_
        rfl
      · rfl
    · rfl
theorem e_X11_readIndexed_118 (v1 : Int32) (v2 : Int32) (h : mx_H)  : mx_D (7, mm_X11_readIndexed, 118, [.ref 47, .int v1, .int v2, mx_junk, mx_junk, mx_junk], []) h = mx_D (7, mm_X11_readIndexed, 119, [.ref 47, .int v1, .int v2, mx_junk, mx_junk, mx_junk], [.int ((-1))]) h := by
  refine Eq.trans (q_iconst (x := (-1)) dX11_readIndexed_118 rfl) ?_
  rfl
theorem e_X11_readIndexed_119 (v1 : Int32) (v2 : Int32) (s0 : Int32) (h : mx_H)  : mx_D (7, mm_X11_readIndexed, 119, [.ref 47, .int v1, .int v2, mx_junk, mx_junk, mx_junk], [.int s0]) h = if s0 < 0 then mx_D (7, mm_X11_readIndexed, 130, [.ref 47, .int v1, .int v2, .int s0, mx_junk, mx_junk], [.int 0, .ref 47]) h else (mx_D (7, mm_X11_readIndexed, 130, [.ref 47, .int v1, .int v2, .int s0, mx_junk, mx_junk], [.int 1, .ref 47]) h) := by
  refine Eq.trans (q_istore_n (L' := [.ref 47, .int v1, .int v2, .int s0, mx_junk, mx_junk]) dX11_readIndexed_119 (Nat.le_of_ble_eq_true rfl) rfl) ?_
  refine Eq.trans (q_aload_n dX11_readIndexed_120 rfl rfl) ?_
  refine Eq.trans (q_iload_n dX11_readIndexed_121 rfl) ?_
  refine Eq.trans (q_if_lt 129 dX11_readIndexed_122 rfl) (q_ite2 ?_ ?_)
  · refine Eq.trans (q_iconst (x := 0) dX11_readIndexed_129 rfl) ?_
    rfl
  · refine Eq.trans (q_iconst (x := 1) dX11_readIndexed_125 rfl) ?_
    refine Eq.trans (q_goto 130 dX11_readIndexed_126 rfl) ?_
    rfl
theorem e_X11_readIndexed_130 (v1 : Int32) (v2 : Int32) (v3 : Int32) (s1 : Int32) (h : mx_H)  : mx_D (7, mm_X11_readIndexed, 130, [.ref 47, .int v1, .int v2, .int v3, mx_junk, mx_junk], [.int s1, .ref 47]) h = (mx_C mm_X11_pass [.ref 47, .int s1] h).bind (fun o => mx_D (7, mm_X11_readIndexed, 133, [.ref 47, .int v1, .int v2, .int v3, mx_junk, mx_junk], o.1.toList ++ []) o.2) := by
  exact q_call0 (as := [.int s1]) (rest := []) dX11_readIndexed_130 mx_inv_11_127 rfl rfl rfl ⟨Nat.le_of_ble_eq_true rfl, Nat.le_of_ble_eq_true rfl, (Nat.le_of_ble_eq_true rfl)⟩
theorem e_X11_readIndexed_133 (v1 : Int32) (v2 : Int32) (v3 : Int32) (s0 : Int32) (h : mx_H)  : mx_D (7, mm_X11_readIndexed, 133, [.ref 47, .int v1, .int v2, .int v3, mx_junk, mx_junk], [.int s0]) h = if s0 = 0 then some (some (.int 0), h) else ((mx_C mm_X11_number [.ref 47] h).bind (fun o => mx_D (7, mm_X11_readIndexed, 142, [.ref 47, .int v1, .int v2, .int v3, mx_junk, mx_junk], o.1.toList ++ []) o.2)) := by
  refine Eq.trans (q_if_ne 138 dX11_readIndexed_133 rfl) (q_ite2 ?_ ?_)
  · refine Eq.trans (q_iconst (x := 0) dX11_readIndexed_136 rfl) ?_
    exact Eq.trans (q_ret dX11_readIndexed_137 rfl) (if_pos rfl)
  · refine Eq.trans (q_aload_n dX11_readIndexed_138 rfl rfl) ?_
    exact q_call0 (as := []) (rest := []) dX11_readIndexed_139 mx_inv_11_209 rfl rfl rfl ⟨Nat.le_of_ble_eq_true rfl, Nat.le_of_ble_eq_true rfl, (Nat.le_of_ble_eq_true rfl)⟩
theorem e_X11_readIndexed_142 (v1 : Int32) (v2 : Int32) (v3 : Int32) (s0 : Int32) (h : mx_H)  : mx_D (7, mm_X11_readIndexed, 142, [.ref 47, .int v1, .int v2, .int v3, mx_junk, mx_junk], [.int s0]) h = if mx_in (h.1 47 18) 12 = true then if s0 < 0 then mx_D (7, mm_X11_readIndexed, 166, [.ref 47, .int v1, .int v2, .int v3, .int s0, mx_junk], [.int 0, .ref 47]) ((mx_u h.1 60 ((h.1 47 18).toNatClampNeg) s0), h.2.1, h.2.2) else (mx_D (7, mm_X11_readIndexed, 166, [.ref 47, .int v1, .int v2, .int v3, .int s0, mx_junk], [.int 1, .ref 47]) ((mx_u h.1 60 ((h.1 47 18).toNatClampNeg) s0), h.2.1, h.2.2)) else none := by
  refine Eq.trans (q_istore (L' := [.ref 47, .int v1, .int v2, .int v3, .int s0, mx_junk]) dX11_readIndexed_142 (Nat.le_of_ble_eq_true rfl) rfl) ?_
  refine Eq.trans (q_aload_n dX11_readIndexed_144 rfl rfl) ?_
  refine Eq.trans (q_getf dX11_readIndexed_145 mx_fld_11_46 (gf_47_23 _)) ?_
  refine Eq.trans (q_aload_n dX11_readIndexed_148 rfl rfl) ?_
  refine Eq.trans (q_getf dX11_readIndexed_149 mx_fld_11_231 (gf_47_18 _)) ?_
  refine Eq.trans (q_iload dX11_readIndexed_152 rfl) ?_
  refine Eq.trans (q_st (w := 0) (by decide) dX11_readIndexed_154 (as_60 _ _ _)) (q_ite ?_)
  refine Eq.trans (q_aload_n dX11_readIndexed_155 rfl rfl) ?_
  refine Eq.trans (q_iload dX11_readIndexed_156 rfl) ?_
  refine Eq.trans (q_if_lt 165 dX11_readIndexed_158 rfl) (q_ite2 ?_ ?_)
  · refine Eq.trans (q_iconst (x := 0) dX11_readIndexed_165 rfl) ?_
    rfl
  · refine Eq.trans (q_iconst (x := 1) dX11_readIndexed_161 rfl) ?_
    refine Eq.trans (q_goto 166 dX11_readIndexed_162 rfl) ?_
    rfl
theorem e_X11_readIndexed_166 (v1 : Int32) (v2 : Int32) (v3 : Int32) (v4 : Int32) (s1 : Int32) (h : mx_H)  : mx_D (7, mm_X11_readIndexed, 166, [.ref 47, .int v1, .int v2, .int v3, .int v4, mx_junk], [.int s1, .ref 47]) h = (mx_C mm_X11_pass [.ref 47, .int s1] h).bind (fun o => mx_D (7, mm_X11_readIndexed, 169, [.ref 47, .int v1, .int v2, .int v3, .int v4, mx_junk], o.1.toList ++ []) o.2) := by
  exact q_call0 (as := [.int s1]) (rest := []) dX11_readIndexed_166 mx_inv_11_127 rfl rfl rfl ⟨Nat.le_of_ble_eq_true rfl, Nat.le_of_ble_eq_true rfl, (Nat.le_of_ble_eq_true rfl)⟩
theorem e_X11_readIndexed_169 (v1 : Int32) (v2 : Int32) (v3 : Int32) (v4 : Int32) (s0 : Int32) (h : mx_H)  : mx_D (7, mm_X11_readIndexed, 169, [.ref 47, .int v1, .int v2, .int v3, .int v4, mx_junk], [.int s0]) h = if s0 = 0 then some (some (.int 0), h) else (if v3 = 30 then (mx_C mm_X11_number [.ref 47] h).bind (fun o => mx_D (7, mm_X11_readIndexed, 184, [.ref 47, .int v1, .int v2, .int v3, .int v4, mx_junk], o.1.toList ++ []) o.2) else (mx_D (7, mm_X11_readIndexed, 223, [.ref 47, .int v1, .int v2, .int v3, .int v4, mx_junk], []) h)) := by
  refine Eq.trans (q_if_ne 174 dX11_readIndexed_169 rfl) (q_ite2 ?_ ?_)
  · refine Eq.trans (q_iconst (x := 0) dX11_readIndexed_172 rfl) ?_
    exact Eq.trans (q_ret dX11_readIndexed_173 rfl) (if_pos rfl)
  · refine Eq.trans (q_iload_n dX11_readIndexed_174 rfl) ?_
    refine Eq.trans (q_bipush (x := 30) dX11_readIndexed_175 rfl) ?_
    refine Eq.trans (q_icmp_ne 223 dX11_readIndexed_177 rfl) (q_ite2 ?_ ?_)
    · refine Eq.trans (q_aload_n dX11_readIndexed_180 rfl rfl) ?_
      exact q_call0 (as := []) (rest := []) dX11_readIndexed_181 mx_inv_11_209 rfl rfl rfl ⟨Nat.le_of_ble_eq_true rfl, Nat.le_of_ble_eq_true rfl, (Nat.le_of_ble_eq_true rfl)⟩
    · rfl
theorem e_X11_readIndexed_184 (v1 : Int32) (v2 : Int32) (v3 : Int32) (v4 : Int32) (s0 : Int32) (h : mx_H)  : mx_D (7, mm_X11_readIndexed, 184, [.ref 47, .int v1, .int v2, .int v3, .int v4, mx_junk], [.int s0]) h = if mx_in (h.1 47 18) 12 = true then if s0 < 0 then mx_D (7, mm_X11_readIndexed, 214, [.ref 47, .int v1, .int v2, .int v3, .int v4, .int s0], [.ref 47]) ((mx_u h.1 61 ((h.1 47 18).toNatClampNeg) s0), h.2.1, h.2.2) else (if v4 < s0 then mx_D (7, mm_X11_readIndexed, 214, [.ref 47, .int v1, .int v2, .int v3, .int v4, .int s0], [.ref 47]) ((mx_u h.1 61 ((h.1 47 18).toNatClampNeg) s0), h.2.1, h.2.2) else (mx_D (7, mm_X11_readIndexed, 215, [.ref 47, .int v1, .int v2, .int v3, .int v4, .int s0], [.int 1, .ref 47]) ((mx_u h.1 61 ((h.1 47 18).toNatClampNeg) s0), h.2.1, h.2.2))) else none := by
  refine Eq.trans (q_istore (L' := [.ref 47, .int v1, .int v2, .int v3, .int v4, .int s0]) dX11_readIndexed_184 (Nat.le_of_ble_eq_true rfl) rfl) ?_
  refine Eq.trans (q_aload_n dX11_readIndexed_186 rfl rfl) ?_
  refine Eq.trans (q_getf dX11_readIndexed_187 mx_fld_11_49 (gf_47_24 _)) ?_
  refine Eq.trans (q_aload_n dX11_readIndexed_190 rfl rfl) ?_
  refine Eq.trans (q_getf dX11_readIndexed_191 mx_fld_11_231 (gf_47_18 _)) ?_
  refine Eq.trans (q_iload dX11_readIndexed_194 rfl) ?_
  refine Eq.trans (q_st (w := 0) (by decide) dX11_readIndexed_196 (as_61 _ _ _)) (q_ite ?_)
  refine Eq.trans (q_aload_n dX11_readIndexed_197 rfl rfl) ?_
  refine Eq.trans (q_iload dX11_readIndexed_198 rfl) ?_
  refine Eq.trans (q_if_lt 214 dX11_readIndexed_200 rfl) (q_ite2 ?_ ?_)
  · rfl
  · refine Eq.trans (q_iload dX11_readIndexed_203 rfl) ?_
    refine Eq.trans (q_iload dX11_readIndexed_205 rfl) ?_
    refine Eq.trans (q_icmp_gt 214 dX11_readIndexed_207 rfl) (q_ite2 ?_ ?_)
    · rfl
    · refine Eq.trans (q_iconst (x := 1) dX11_readIndexed_210 rfl) ?_
      refine Eq.trans (q_goto 215 dX11_readIndexed_211 rfl) ?_
      rfl
theorem e_X11_readIndexed_214 (v1 : Int32) (v2 : Int32) (v3 : Int32) (v4 : Int32) (v5 : Int32) (h : mx_H)  : mx_D (7, mm_X11_readIndexed, 214, [.ref 47, .int v1, .int v2, .int v3, .int v4, .int v5], [.ref 47]) h = mx_D (7, mm_X11_readIndexed, 215, [.ref 47, .int v1, .int v2, .int v3, .int v4, .int v5], [.int 0, .ref 47]) h := by
  refine Eq.trans (q_iconst (x := 0) dX11_readIndexed_214 rfl) ?_
  rfl
theorem e_X11_readIndexed_215 (v1 : Int32) (v2 : Int32) (v3 : Int32) (v4 : Int32) (v5 : Int32) (s1 : Int32) (h : mx_H)  : mx_D (7, mm_X11_readIndexed, 215, [.ref 47, .int v1, .int v2, .int v3, .int v4, .int v5], [.int s1, .ref 47]) h = (mx_C mm_X11_pass [.ref 47, .int s1] h).bind (fun o => mx_D (7, mm_X11_readIndexed, 218, [.ref 47, .int v1, .int v2, .int v3, .int v4, .int v5], o.1.toList ++ []) o.2) := by
  exact q_call0 (as := [.int s1]) (rest := []) dX11_readIndexed_215 mx_inv_11_127 rfl rfl rfl ⟨Nat.le_of_ble_eq_true rfl, Nat.le_of_ble_eq_true rfl, (Nat.le_of_ble_eq_true rfl)⟩
theorem e_X11_readIndexed_218 (v1 : Int32) (v2 : Int32) (v3 : Int32) (v4 : Int32) (v5 : Int32) (s0 : Int32) (h : mx_H)  : mx_D (7, mm_X11_readIndexed, 218, [.ref 47, .int v1, .int v2, .int v3, .int v4, .int v5], [.int s0]) h = if s0 = 0 then some (some (.int 0), h) else (mx_D (7, mm_X11_readIndexed, 223, [.ref 47, .int v1, .int v2, .int v3, .int v4, .int v5], []) h) := by
  refine Eq.trans (q_if_ne 223 dX11_readIndexed_218 rfl) (q_ite2 ?_ ?_)
  · refine Eq.trans (q_iconst (x := 0) dX11_readIndexed_221 rfl) ?_
    exact Eq.trans (q_ret dX11_readIndexed_222 rfl) (if_pos rfl)
  · rfl
theorem e_X11_readIndexed_223 (v1 : Int32) (v2 : Int32) (v3 : Int32) (v4 : Int32) (v5 : Value) (h : mx_H)  : mx_D (7, mm_X11_readIndexed, 223, [.ref 47, .int v1, .int v2, .int v3, .int v4, v5], []) h = if (h.1 47 2) = 2 then mx_D (7, mm_X11_readIndexed, 237, [.ref 47, .int v1, .int v2, .int v3, .int v4, v5], [.int 1, .ref 47]) h else (mx_D (7, mm_X11_readIndexed, 237, [.ref 47, .int v1, .int v2, .int v3, .int v4, v5], [.int 0, .ref 47]) h) := by
  refine Eq.trans (q_aload_n dX11_readIndexed_223 rfl rfl) ?_
  refine Eq.trans (q_aload_n dX11_readIndexed_224 rfl rfl) ?_
  refine Eq.trans (q_getf dX11_readIndexed_225 mx_fld_11_115 (gf_47_2 _)) ?_
  refine Eq.trans (q_iconst (x := 2) dX11_readIndexed_228 rfl) ?_
  refine Eq.trans (q_icmp_ne 236 dX11_readIndexed_229 rfl) (q_ite2 ?_ ?_)
  · refine Eq.trans (q_iconst (x := 1) dX11_readIndexed_232 rfl) ?_
    refine Eq.trans (q_goto 237 dX11_readIndexed_233 rfl) ?_
    rfl
  · refine Eq.trans (q_iconst (x := 0) dX11_readIndexed_236 rfl) ?_
    rfl
theorem e_X11_readIndexed_237 (v1 : Int32) (v2 : Int32) (v3 : Int32) (v4 : Int32) (v5 : Value) (s1 : Int32) (h : mx_H)  : mx_D (7, mm_X11_readIndexed, 237, [.ref 47, .int v1, .int v2, .int v3, .int v4, v5], [.int s1, .ref 47]) h = (mx_C mm_X11_pass [.ref 47, .int s1] h).bind (fun o => mx_D (7, mm_X11_readIndexed, 240, [.ref 47, .int v1, .int v2, .int v3, .int v4, v5], o.1.toList ++ []) o.2) := by
  exact q_call0 (as := [.int s1]) (rest := []) dX11_readIndexed_237 mx_inv_11_127 rfl rfl rfl ⟨Nat.le_of_ble_eq_true rfl, Nat.le_of_ble_eq_true rfl, (Nat.le_of_ble_eq_true rfl)⟩
theorem e_X11_readIndexed_240 (v1 : Int32) (v2 : Int32) (v3 : Int32) (v4 : Int32) (v5 : Value) (s0 : Int32) (h : mx_H)  : mx_D (7, mm_X11_readIndexed, 240, [.ref 47, .int v1, .int v2, .int v3, .int v4, v5], [.int s0]) h = if s0 = 0 then some (some (.int 0), h) else ((mx_C mm_X11_push [.ref 47, .int v3, .int v1] h).bind (fun o => mx_D (7, mm_X11_readIndexed, 251, [.ref 47, .int v1, .int v2, .int v3, .int v4, v5], o.1.toList ++ []) o.2)) := by
  refine Eq.trans (q_if_ne 245 dX11_readIndexed_240 rfl) (q_ite2 ?_ ?_)
  · refine Eq.trans (q_iconst (x := 0) dX11_readIndexed_243 rfl) ?_
    exact Eq.trans (q_ret dX11_readIndexed_244 rfl) (if_pos rfl)
  · refine Eq.trans (q_aload_n dX11_readIndexed_245 rfl rfl) ?_
    refine Eq.trans (q_iload_n dX11_readIndexed_246 rfl) ?_
    refine Eq.trans (q_iload_n dX11_readIndexed_247 rfl) ?_
    exact q_call0 (as := [.int v3, .int v1]) (rest := []) dX11_readIndexed_248 mx_inv_11_241 rfl rfl rfl ⟨Nat.le_of_ble_eq_true rfl, Nat.le_of_ble_eq_true rfl, (Nat.le_of_ble_eq_true rfl)⟩
theorem e_X11_readIndexed_251 (v1 : Int32) (v2 : Int32) (v3 : Int32) (v4 : Int32) (v5 : Value) (h : mx_H)  : mx_D (7, mm_X11_readIndexed, 251, [.ref 47, .int v1, .int v2, .int v3, .int v4, v5], []) h = some (some (.int 1), h) := by
  refine Eq.trans (q_iconst (x := 1) dX11_readIndexed_251 rfl) ?_
  exact Eq.trans (q_ret dX11_readIndexed_252 rfl) (if_pos rfl)
theorem e_X11_parts_0 (v0 : Int32) (h : mx_H)  : mx_D (2, mm_X11_parts, 0, [.int v0], []) h = if v0 = 4 then mx_D (2, mm_X11_parts, 28, [.int v0], []) h else (if v0 = 12 then mx_D (2, mm_X11_parts, 28, [.int v0], []) h else (if v0 = 13 then mx_D (2, mm_X11_parts, 28, [.int v0], []) h else ((mx_C mm_X11_in [.int v0, .int 30, .int 32] h).bind (fun o => mx_D (2, mm_X11_parts, 25, [.int v0], o.1.toList ++ []) o.2)))) := by
  refine Eq.trans (q_iload_n dX11_parts_0 rfl) ?_
  refine Eq.trans (q_iconst (x := 4) dX11_parts_1 rfl) ?_
  refine Eq.trans (q_icmp_eq 28 dX11_parts_2 rfl) (q_ite2 ?_ ?_)
  · rfl
  · refine Eq.trans (q_iload_n dX11_parts_5 rfl) ?_
    refine Eq.trans (q_bipush (x := 12) dX11_parts_6 rfl) ?_
    refine Eq.trans (q_icmp_eq 28 dX11_parts_8 rfl) (q_ite2 ?_ ?_)
    · rfl
    · refine Eq.trans (q_iload_n dX11_parts_11 rfl) ?_
      refine Eq.trans (q_bipush (x := 13) dX11_parts_12 rfl) ?_
      refine Eq.trans (q_icmp_eq 28 dX11_parts_14 rfl) (q_ite2 ?_ ?_)
      · rfl
      · refine Eq.trans (q_iload_n dX11_parts_17 rfl) ?_
        refine Eq.trans (q_bipush (x := 30) dX11_parts_18 rfl) ?_
        refine Eq.trans (q_bipush (x := 32) dX11_parts_20 rfl) ?_
        exact q_call1 (as := [.int v0, .int 30, .int 32]) (rest := []) dX11_parts_22 mx_inv_11_84 rfl rfl ⟨Nat.le_of_ble_eq_true rfl, Nat.le_of_ble_eq_true rfl, (Nat.le_of_ble_eq_true rfl)⟩
theorem c_X11_parts (v0 : Int32) (h : mx_H) : mx_C mm_X11_parts [.int v0] h = mx_D (2, mm_X11_parts, 0, [.int v0], []) h := rfl
theorem e_X11_parts_25 (v0 : Int32) (s0 : Int32) (h : mx_H)  : mx_D (2, mm_X11_parts, 25, [.int v0], [.int s0]) h = if s0 = 0 then if v0 = 11 then mx_D (2, mm_X11_parts, 44, [.int v0], []) h else (if v0 = 34 then mx_D (2, mm_X11_parts, 44, [.int v0], []) h else (mx_D (2, mm_X11_parts, 49, [.int v0], [.int 2]) h)) else (mx_D (2, mm_X11_parts, 28, [.int v0], []) h) := by
  refine Eq.trans (q_if_eq 32 dX11_parts_25 rfl) (q_ite2 ?_ ?_)
  · refine Eq.trans (q_iload_n dX11_parts_32 rfl) ?_
    refine Eq.trans (q_bipush (x := 11) dX11_parts_33 rfl) ?_
    refine Eq.trans (q_icmp_eq 44 dX11_parts_35 rfl) (q_ite2 ?_ ?_)
    · rfl
    · refine Eq.trans (q_iload_n dX11_parts_38 rfl) ?_
      refine Eq.trans (q_bipush (x := 34) dX11_parts_39 rfl) ?_
      refine Eq.trans (q_icmp_ne 48 dX11_parts_41 rfl) (q_ite2 ?_ ?_)
      · rfl
      · refine Eq.trans (q_iconst (x := 2) dX11_parts_48 rfl) ?_
        rfl
  · rfl
theorem e_X11_parts_28 (v0 : Int32) (h : mx_H)  : mx_D (2, mm_X11_parts, 28, [.int v0], []) h = mx_D (2, mm_X11_parts, 49, [.int v0], [.int 1]) h := by
  refine Eq.trans (q_iconst (x := 1) dX11_parts_28 rfl) ?_
  refine Eq.trans (q_goto 49 dX11_parts_29 rfl) ?_
  rfl
theorem e_X11_parts_44 (v0 : Int32) (h : mx_H)  : mx_D (2, mm_X11_parts, 44, [.int v0], []) h = mx_D (2, mm_X11_parts, 49, [.int v0], [.int 3]) h := by
  refine Eq.trans (q_iconst (x := 3) dX11_parts_44 rfl) ?_
  refine Eq.trans (q_goto 49 dX11_parts_45 rfl) ?_
  rfl
theorem e_X11_parts_49 (v0 : Int32) (s0 : Int32) (h : mx_H)  : mx_D (2, mm_X11_parts, 49, [.int v0], [.int s0]) h = some (some (.int s0), h) := by
  exact q_retI dX11_parts_49 rfl
theorem e_X11_fits_0 (v1 : Int32) (v2 : Int32) (v3 : Int32) (h : mx_H)  : mx_D (2, mm_X11_fits, 0, [.ref 47, .int v1, .int v2, .int v3, mx_junk, mx_junk, mx_junk], []) h = if mx_in v1 12 = true then (mx_C mm_X11_in [.int v3, .int 1, .int 4] h).bind (fun o => mx_D (2, mm_X11_fits, 14, [.ref 47, .int v1, .int v2, .int v3, .int (h.1 56 v1.toNatClampNeg), mx_junk, mx_junk], o.1.toList ++ []) o.2) else none := by
  refine Eq.trans (q_aload_n dX11_fits_0 rfl rfl) ?_
  refine Eq.trans (q_getf dX11_fits_1 mx_fld_11_34 (gf_47_19 _)) ?_
  refine Eq.trans (q_iload_n dX11_fits_4 rfl) ?_
  refine Eq.trans (q_ld (w := 0) (by decide) dX11_fits_5 (al_56 _ _)) (q_ite ?_)
  refine Eq.trans (q_istore (L' := [.ref 47, .int v1, .int v2, .int v3, .int (h.1 56 v1.toNatClampNeg), mx_junk, mx_junk]) dX11_fits_6 (Nat.le_of_ble_eq_true rfl) rfl) ?_
  refine Eq.trans (q_iload_n dX11_fits_8 rfl) ?_
  refine Eq.trans (q_iconst (x := 1) dX11_fits_9 rfl) ?_
  refine Eq.trans (q_iconst (x := 4) dX11_fits_10 rfl) ?_
  exact q_call1 (as := [.int v3, .int 1, .int 4]) (rest := []) dX11_fits_11 mx_inv_11_84 rfl rfl ⟨Nat.le_of_ble_eq_true rfl, Nat.le_of_ble_eq_true rfl, (Nat.le_of_ble_eq_true rfl)⟩
theorem c_X11_fits (v1 : Int32) (v2 : Int32) (v3 : Int32) (h : mx_H) : mx_C mm_X11_fits [.ref 47, .int v1, .int v2, .int v3] h = mx_D (2, mm_X11_fits, 0, [.ref 47, .int v1, .int v2, .int v3, mx_junk, mx_junk, mx_junk], []) h := rfl
theorem e_X11_fits_14 (v1 : Int32) (v2 : Int32) (v3 : Int32) (v4 : Int32) (s0 : Int32) (h : mx_H)  : mx_D (2, mm_X11_fits, 14, [.ref 47, .int v1, .int v2, .int v3, .int v4, mx_junk, mx_junk], [.int s0]) h = if v2 ≤ 0 then mx_D (2, mm_X11_fits, 37, [.ref 47, .int v1, .int v2, .int v3, .int v4, .int s0, mx_junk], [.int ((-1))]) h else (if mx_in (3 * v1) 36 = true then if mx_in (h.1 59 ((3 * v1).toNatClampNeg)) 130 = true then mx_D (2, mm_X11_fits, 37, [.ref 47, .int v1, .int v2, .int v3, .int v4, .int s0, mx_junk], [.int (h.1 50 ((h.1 59 ((3 * v1).toNatClampNeg)).toNatClampNeg))]) h else none else none) := by
  refine Eq.trans (q_istore (L' := [.ref 47, .int v1, .int v2, .int v3, .int v4, .int s0, mx_junk]) dX11_fits_14 (Nat.le_of_ble_eq_true rfl) rfl) ?_
  refine Eq.trans (q_iload_n dX11_fits_16 rfl) ?_
  refine Eq.trans (q_if_le 36 dX11_fits_17 rfl) (q_ite2 ?_ ?_)
  · refine Eq.trans (q_iconst (x := (-1)) dX11_fits_36 rfl) ?_
    rfl
  · refine Eq.trans (q_aload_n dX11_fits_20 rfl rfl) ?_
    refine Eq.trans (q_getf dX11_fits_21 mx_fld_11_16 (gf_47_11 _)) ?_
    refine Eq.trans (q_aload_n dX11_fits_24 rfl rfl) ?_
    refine Eq.trans (q_getf dX11_fits_25 mx_fld_11_43 (gf_47_22 _)) ?_
    refine Eq.trans (q_iconst (x := 3) dX11_fits_28 rfl) ?_
    refine Eq.trans (q_iload_n dX11_fits_29 rfl) ?_
    refine Eq.trans (q_imul dX11_fits_30) ?_
    refine Eq.trans (q_ld (w := 0) (by decide) dX11_fits_31 (al_59 _ _)) (q_ite ?_)
    refine Eq.trans (q_ld (w := 0) (by decide) dX11_fits_32 (al_50 _ _)) (q_ite ?_)
    refine Eq.trans (q_goto 37 dX11_fits_33 rfl) ?_
    rfl
theorem e_X11_fits_37 (v1 : Int32) (v2 : Int32) (v3 : Int32) (v4 : Int32) (v5 : Int32) (s0 : Int32) (h : mx_H)  : mx_D (2, mm_X11_fits, 37, [.ref 47, .int v1, .int v2, .int v3, .int v4, .int v5, mx_junk], [.int s0]) h = (mx_C mm_X11_in [.int v4, .int 4, .int 8] h).bind (fun o => mx_D (2, mm_X11_fits, 47, [.ref 47, .int v1, .int v2, .int v3, .int v4, .int v5, .int s0], o.1.toList ++ []) o.2) := by
  refine Eq.trans (q_istore (L' := [.ref 47, .int v1, .int v2, .int v3, .int v4, .int v5, .int s0]) dX11_fits_37 (Nat.le_of_ble_eq_true rfl) rfl) ?_
  refine Eq.trans (q_iload dX11_fits_39 rfl) ?_
  refine Eq.trans (q_iconst (x := 4) dX11_fits_41 rfl) ?_
  refine Eq.trans (q_bipush (x := 8) dX11_fits_42 rfl) ?_
  exact q_call1 (as := [.int v4, .int 4, .int 8]) (rest := []) dX11_fits_44 mx_inv_11_84 rfl rfl ⟨Nat.le_of_ble_eq_true rfl, Nat.le_of_ble_eq_true rfl, (Nat.le_of_ble_eq_true rfl)⟩
theorem e_X11_fits_47 (v1 : Int32) (v2 : Int32) (v3 : Int32) (v4 : Int32) (v5 : Int32) (v6 : Int32) (s0 : Int32) (h : mx_H)  : mx_D (2, mm_X11_fits, 47, [.ref 47, .int v1, .int v2, .int v3, .int v4, .int v5, .int v6], [.int s0]) h = if s0 = 0 then if v4 = 9 then mx_D (2, mm_X11_fits, 74, [.ref 47, .int v1, .int v2, .int v3, .int v4, .int v5, .int v6], []) h else (if v4 = 10 then mx_D (2, mm_X11_fits, 74, [.ref 47, .int v1, .int v2, .int v3, .int v4, .int v5, .int v6], []) h else (if v4 = 11 then if v2 = 0 then if v3 = 0 then mx_D (2, mm_X11_fits, 142, [.ref 47, .int v1, .int v2, .int v3, .int v4, .int v5, .int v6], [.int 1]) h else (mx_D (2, mm_X11_fits, 142, [.ref 47, .int v1, .int v2, .int v3, .int v4, .int v5, .int v6], [.int 0]) h) else (if v2 = 1 then mx_D (2, mm_X11_fits, 137, [.ref 47, .int v1, .int v2, .int v3, .int v4, .int v5, .int v6], []) h else (if mx_in ((3 * v1) + 1) 36 = true then if mx_in (h.1 59 (((3 * v1) + 1).toNatClampNeg)) 130 = true then if v3 = (h.1 50 ((h.1 59 (((3 * v1) + 1).toNatClampNeg)).toNatClampNeg)) then mx_D (2, mm_X11_fits, 137, [.ref 47, .int v1, .int v2, .int v3, .int v4, .int v5, .int v6], []) h else (mx_D (2, mm_X11_fits, 142, [.ref 47, .int v1, .int v2, .int v3, .int v4, .int v5, .int v6], [.int 0]) h) else none else none)) else ((mx_C mm_X11_in [.int v4, .int 12, .int 28] h).bind (fun o => mx_D (2, mm_X11_fits, 152, [.ref 47, .int v1, .int v2, .int v3, .int v4, .int v5, .int v6], o.1.toList ++ []) o.2)))) else (if v3 = 0 then mx_D (2, mm_X11_fits, 59, [.ref 47, .int v1, .int v2, .int v3, .int v4, .int v5, .int v6], [.int 1]) h else (mx_D (2, mm_X11_fits, 59, [.ref 47, .int v1, .int v2, .int v3, .int v4, .int v5, .int v6], [.int 0]) h)) := by
  refine Eq.trans (q_if_eq 60 dX11_fits_47 rfl) (q_ite2 ?_ ?_)
  · refine Eq.trans (q_iload dX11_fits_60 rfl) ?_
    refine Eq.trans (q_bipush (x := 9) dX11_fits_62 rfl) ?_
    refine Eq.trans (q_icmp_eq 74 dX11_fits_64 rfl) (q_ite2 ?_ ?_)
    · rfl
    · refine Eq.trans (q_iload dX11_fits_67 rfl) ?_
      refine Eq.trans (q_bipush (x := 10) dX11_fits_69 rfl) ?_
      refine Eq.trans (q_icmp_ne 90 dX11_fits_71 rfl) (q_ite2 ?_ ?_)
      · rfl
      · refine Eq.trans (q_iload dX11_fits_90 rfl) ?_
        refine Eq.trans (q_bipush (x := 11) dX11_fits_92 rfl) ?_
        refine Eq.trans (q_icmp_ne 143 dX11_fits_94 rfl) (q_ite2 ?_ ?_)
        · refine Eq.trans (q_iload_n dX11_fits_97 rfl) ?_
          refine Eq.trans (q_if_ne 113 dX11_fits_98 rfl) (q_ite2 ?_ ?_)
          · refine Eq.trans (q_iload_n dX11_fits_101 rfl) ?_
            refine Eq.trans (q_if_ne 109 dX11_fits_102 rfl) (q_ite2 ?_ ?_)
            · refine Eq.trans (q_iconst (x := 1) dX11_fits_105 rfl) ?_
              refine Eq.trans (q_goto 142 dX11_fits_106 rfl) ?_
              rfl
            · refine Eq.trans (q_iconst (x := 0) dX11_fits_109 rfl) ?_
              refine Eq.trans (q_goto 142 dX11_fits_110 rfl) ?_
              rfl
          · refine Eq.trans (q_iload_n dX11_fits_113 rfl) ?_
            refine Eq.trans (q_iconst (x := 1) dX11_fits_114 rfl) ?_
            refine Eq.trans (q_icmp_eq 137 dX11_fits_115 rfl) (q_ite2 ?_ ?_)
            · rfl
            · refine Eq.trans (q_iload_n dX11_fits_118 rfl) ?_
              refine Eq.trans (q_aload_n dX11_fits_119 rfl rfl) ?_
              refine Eq.trans (q_getf dX11_fits_120 mx_fld_11_16 (gf_47_11 _)) ?_
              refine Eq.trans (q_aload_n dX11_fits_123 rfl rfl) ?_
              refine Eq.trans (q_getf dX11_fits_124 mx_fld_11_43 (gf_47_22 _)) ?_
              refine Eq.trans (q_iconst (x := 3) dX11_fits_127 rfl) ?_
              refine Eq.trans (q_iload_n dX11_fits_128 rfl) ?_
              refine Eq.trans (q_imul dX11_fits_129) ?_
              refine Eq.trans (q_iconst (x := 1) dX11_fits_130 rfl) ?_
              refine Eq.trans (q_iadd dX11_fits_131) ?_
              refine Eq.trans (q_ld (w := 0) (by decide) dX11_fits_132 (al_59 _ _)) (q_ite ?_)
              refine Eq.trans (q_ld (w := 0) (by decide) dX11_fits_133 (al_50 _ _)) (q_ite ?_)
              refine Eq.trans (q_icmp_ne 141 dX11_fits_134 rfl) (q_ite2 ?_ ?_)
              · rfl
              · refine Eq.trans (q_iconst (x := 0) dX11_fits_141 rfl) ?_
                rfl
        · refine Eq.trans (q_iload dX11_fits_143 rfl) ?_
          refine Eq.trans (q_bipush (x := 12) dX11_fits_145 rfl) ?_
          refine Eq.trans (q_bipush (x := 28) dX11_fits_147 rfl) ?_
          exact q_call1 (as := [.int v4, .int 12, .int 28]) (rest := []) dX11_fits_149 mx_inv_11_84 rfl rfl ⟨Nat.le_of_ble_eq_true rfl, Nat.le_of_ble_eq_true rfl, (Nat.le_of_ble_eq_true rfl)⟩
  · refine Eq.trans (q_iload_n dX11_fits_50 rfl) ?_
    refine Eq.trans (q_if_ne 58 dX11_fits_51 rfl) (q_ite2 ?_ ?_)
    · refine Eq.trans (q_iconst (x := 1) dX11_fits_54 rfl) ?_
      refine Eq.trans (q_goto 59 dX11_fits_55 rfl) ?_
      rfl
    · refine Eq.trans (q_iconst (x := 0) dX11_fits_58 rfl) ?_
      rfl
theorem e_X11_fits_59 (v1 : Int32) (v2 : Int32) (v3 : Int32) (v4 : Int32) (v5 : Int32) (v6 : Int32) (s0 : Int32) (h : mx_H)  : mx_D (2, mm_X11_fits, 59, [.ref 47, .int v1, .int v2, .int v3, .int v4, .int v5, .int v6], [.int s0]) h = if narrow .boolean (.int s0) = .int s0 then some (some (.int s0), h) else none := by
  exact q_ret dX11_fits_59 rfl
theorem e_X11_fits_74 (v1 : Int32) (v2 : Int32) (v3 : Int32) (v4 : Int32) (v5 : Int32) (v6 : Int32) (h : mx_H)  : mx_D (2, mm_X11_fits, 74, [.ref 47, .int v1, .int v2, .int v3, .int v4, .int v5, .int v6], []) h = if v2 = 0 then mx_D (2, mm_X11_fits, 84, [.ref 47, .int v1, .int v2, .int v3, .int v4, .int v5, .int v6], []) h else (if v3 = v6 then mx_D (2, mm_X11_fits, 84, [.ref 47, .int v1, .int v2, .int v3, .int v4, .int v5, .int v6], []) h else (mx_D (2, mm_X11_fits, 89, [.ref 47, .int v1, .int v2, .int v3, .int v4, .int v5, .int v6], [.int 0]) h)) := by
  refine Eq.trans (q_iload_n dX11_fits_74 rfl) ?_
  refine Eq.trans (q_if_eq 84 dX11_fits_75 rfl) (q_ite2 ?_ ?_)
  · rfl
  · refine Eq.trans (q_iload_n dX11_fits_78 rfl) ?_
    refine Eq.trans (q_iload dX11_fits_79 rfl) ?_
    refine Eq.trans (q_icmp_ne 88 dX11_fits_81 rfl) (q_ite2 ?_ ?_)
    · rfl
    · refine Eq.trans (q_iconst (x := 0) dX11_fits_88 rfl) ?_
      rfl
theorem e_X11_fits_84 (v1 : Int32) (v2 : Int32) (v3 : Int32) (v4 : Int32) (v5 : Int32) (v6 : Int32) (h : mx_H)  : mx_D (2, mm_X11_fits, 84, [.ref 47, .int v1, .int v2, .int v3, .int v4, .int v5, .int v6], []) h = mx_D (2, mm_X11_fits, 89, [.ref 47, .int v1, .int v2, .int v3, .int v4, .int v5, .int v6], [.int 1]) h := by
  refine Eq.trans (q_iconst (x := 1) dX11_fits_84 rfl) ?_
  refine Eq.trans (q_goto 89 dX11_fits_85 rfl) ?_
  rfl
theorem e_X11_fits_89 (v1 : Int32) (v2 : Int32) (v3 : Int32) (v4 : Int32) (v5 : Int32) (v6 : Int32) (s0 : Int32) (h : mx_H)  : mx_D (2, mm_X11_fits, 89, [.ref 47, .int v1, .int v2, .int v3, .int v4, .int v5, .int v6], [.int s0]) h = if narrow .boolean (.int s0) = .int s0 then some (some (.int s0), h) else none := by
  exact q_ret dX11_fits_89 rfl
theorem e_X11_fits_137 (v1 : Int32) (v2 : Int32) (v3 : Int32) (v4 : Int32) (v5 : Int32) (v6 : Int32) (h : mx_H)  : mx_D (2, mm_X11_fits, 137, [.ref 47, .int v1, .int v2, .int v3, .int v4, .int v5, .int v6], []) h = mx_D (2, mm_X11_fits, 142, [.ref 47, .int v1, .int v2, .int v3, .int v4, .int v5, .int v6], [.int 1]) h := by
  refine Eq.trans (q_iconst (x := 1) dX11_fits_137 rfl) ?_
  refine Eq.trans (q_goto 142 dX11_fits_138 rfl) ?_
  rfl
theorem e_X11_fits_142 (v1 : Int32) (v2 : Int32) (v3 : Int32) (v4 : Int32) (v5 : Int32) (v6 : Int32) (s0 : Int32) (h : mx_H)  : mx_D (2, mm_X11_fits, 142, [.ref 47, .int v1, .int v2, .int v3, .int v4, .int v5, .int v6], [.int s0]) h = if narrow .boolean (.int s0) = .int s0 then some (some (.int s0), h) else none := by
  exact q_ret dX11_fits_142 rfl
theorem e_X11_fits_152 (v1 : Int32) (v2 : Int32) (v3 : Int32) (v4 : Int32) (v5 : Int32) (v6 : Int32) (s0 : Int32) (h : mx_H)  : mx_D (2, mm_X11_fits, 152, [.ref 47, .int v1, .int v2, .int v3, .int v4, .int v5, .int v6], [.int s0]) h = if s0 = 0 then if v4 = 29 then if v5 = 0 then mx_D (2, mm_X11_fits, 204, [.ref 47, .int v1, .int v2, .int v3, .int v4, .int v5, .int v6], []) h else (if v2 = 0 then mx_D (2, mm_X11_fits, 200, [.ref 47, .int v1, .int v2, .int v3, .int v4, .int v5, .int v6], []) h else (if 4 < (v3 + v6) then mx_D (2, mm_X11_fits, 204, [.ref 47, .int v1, .int v2, .int v3, .int v4, .int v5, .int v6], []) h else (mx_D (2, mm_X11_fits, 200, [.ref 47, .int v1, .int v2, .int v3, .int v4, .int v5, .int v6], []) h))) else (if v4 = 30 then if v5 = 0 then mx_D (2, mm_X11_fits, 232, [.ref 47, .int v1, .int v2, .int v3, .int v4, .int v5, .int v6], []) h else (if mx_in v1 12 = true then if v3 ≤ (h.1 60 v1.toNatClampNeg) then mx_D (2, mm_X11_fits, 232, [.ref 47, .int v1, .int v2, .int v3, .int v4, .int v5, .int v6], []) h else (mx_D (2, mm_X11_fits, 233, [.ref 47, .int v1, .int v2, .int v3, .int v4, .int v5, .int v6], [.int 1]) h) else none) else (if v4 = 31 then mx_D (2, mm_X11_fits, 248, [.ref 47, .int v1, .int v2, .int v3, .int v4, .int v5, .int v6], []) h else (if v4 = 32 then mx_D (2, mm_X11_fits, 248, [.ref 47, .int v1, .int v2, .int v3, .int v4, .int v5, .int v6], []) h else (if v2 = 0 then if v3 ≤ 4 then mx_D (2, mm_X11_fits, 319, [.ref 47, .int v1, .int v2, .int v3, .int v4, .int v5, .int v6], [.int 0]) h else (mx_D (2, mm_X11_fits, 319, [.ref 47, .int v1, .int v2, .int v3, .int v4, .int v5, .int v6], [.int 1]) h) else (if v2 = 1 then if v3 = 1 then mx_D (2, mm_X11_fits, 319, [.ref 47, .int v1, .int v2, .int v3, .int v4, .int v5, .int v6], [.int 1]) h else (mx_D (2, mm_X11_fits, 319, [.ref 47, .int v1, .int v2, .int v3, .int v4, .int v5, .int v6], [.int 0]) h) else (if v3 = (v6 - 4) then mx_D (2, mm_X11_fits, 319, [.ref 47, .int v1, .int v2, .int v3, .int v4, .int v5, .int v6], [.int 1]) h else (mx_D (2, mm_X11_fits, 319, [.ref 47, .int v1, .int v2, .int v3, .int v4, .int v5, .int v6], [.int 0]) h))))))) else (if v5 = 0 then mx_D (2, mm_X11_fits, 174, [.ref 47, .int v1, .int v2, .int v3, .int v4, .int v5, .int v6], []) h else (if v2 = 0 then mx_D (2, mm_X11_fits, 170, [.ref 47, .int v1, .int v2, .int v3, .int v4, .int v5, .int v6], []) h else (if v3 = v6 then mx_D (2, mm_X11_fits, 170, [.ref 47, .int v1, .int v2, .int v3, .int v4, .int v5, .int v6], []) h else (mx_D (2, mm_X11_fits, 174, [.ref 47, .int v1, .int v2, .int v3, .int v4, .int v5, .int v6], []) h)))) := by
  refine Eq.trans (q_if_eq 176 dX11_fits_152 rfl) (q_ite2 ?_ ?_)
  · refine Eq.trans (q_iload dX11_fits_176 rfl) ?_
    refine Eq.trans (q_bipush (x := 29) dX11_fits_178 rfl) ?_
    refine Eq.trans (q_icmp_ne 206 dX11_fits_180 rfl) (q_ite2 ?_ ?_)
    · refine Eq.trans (q_iload dX11_fits_183 rfl) ?_
      refine Eq.trans (q_if_eq 204 dX11_fits_185 rfl) (q_ite2 ?_ ?_)
      · rfl
      · refine Eq.trans (q_iload_n dX11_fits_188 rfl) ?_
        refine Eq.trans (q_if_eq 200 dX11_fits_189 rfl) (q_ite2 ?_ ?_)
        · rfl
        · refine Eq.trans (q_iload_n dX11_fits_192 rfl) ?_
          refine Eq.trans (q_iload dX11_fits_193 rfl) ?_
          refine Eq.trans (q_iadd dX11_fits_195) ?_
          refine Eq.trans (q_iconst (x := 4) dX11_fits_196 rfl) ?_
          refine Eq.trans (q_icmp_gt 204 dX11_fits_197 rfl) (q_ite2 ?_ ?_)
          · rfl
          · rfl
    · refine Eq.trans (q_iload dX11_fits_206 rfl) ?_
      refine Eq.trans (q_bipush (x := 30) dX11_fits_208 rfl) ?_
      refine Eq.trans (q_icmp_ne 234 dX11_fits_210 rfl) (q_ite2 ?_ ?_)
      · refine Eq.trans (q_iload dX11_fits_213 rfl) ?_
        refine Eq.trans (q_if_eq 232 dX11_fits_215 rfl) (q_ite2 ?_ ?_)
        · rfl
        · refine Eq.trans (q_iload_n dX11_fits_218 rfl) ?_
          refine Eq.trans (q_aload_n dX11_fits_219 rfl rfl) ?_
          refine Eq.trans (q_getf dX11_fits_220 mx_fld_11_46 (gf_47_23 _)) ?_
          refine Eq.trans (q_iload_n dX11_fits_223 rfl) ?_
          refine Eq.trans (q_ld (w := 0) (by decide) dX11_fits_224 (al_60 _ _)) (q_ite ?_)
          refine Eq.trans (q_icmp_le 232 dX11_fits_225 rfl) (q_ite2 ?_ ?_)
          · rfl
          · refine Eq.trans (q_iconst (x := 1) dX11_fits_228 rfl) ?_
            refine Eq.trans (q_goto 233 dX11_fits_229 rfl) ?_
            rfl
      · refine Eq.trans (q_iload dX11_fits_234 rfl) ?_
        refine Eq.trans (q_bipush (x := 31) dX11_fits_236 rfl) ?_
        refine Eq.trans (q_icmp_eq 248 dX11_fits_238 rfl) (q_ite2 ?_ ?_)
        · rfl
        · refine Eq.trans (q_iload dX11_fits_241 rfl) ?_
          refine Eq.trans (q_bipush (x := 32) dX11_fits_243 rfl) ?_
          refine Eq.trans (q_icmp_ne 271 dX11_fits_245 rfl) (q_ite2 ?_ ?_)
          · rfl
          · refine Eq.trans (q_iload_n dX11_fits_271 rfl) ?_
            refine Eq.trans (q_if_ne 288 dX11_fits_272 rfl) (q_ite2 ?_ ?_)
            · refine Eq.trans (q_iload_n dX11_fits_275 rfl) ?_
              refine Eq.trans (q_iconst (x := 4) dX11_fits_276 rfl) ?_
              refine Eq.trans (q_icmp_le 284 dX11_fits_277 rfl) (q_ite2 ?_ ?_)
              · refine Eq.trans (q_iconst (x := 0) dX11_fits_284 rfl) ?_
                refine Eq.trans (q_goto 319 dX11_fits_285 rfl) ?_
                rfl
              · refine Eq.trans (q_iconst (x := 1) dX11_fits_280 rfl) ?_
                refine Eq.trans (q_goto 319 dX11_fits_281 rfl) ?_
                rfl
            · refine Eq.trans (q_iload_n dX11_fits_288 rfl) ?_
              refine Eq.trans (q_iconst (x := 1) dX11_fits_289 rfl) ?_
              refine Eq.trans (q_icmp_ne 306 dX11_fits_290 rfl) (q_ite2 ?_ ?_)
              · refine Eq.trans (q_iload_n dX11_fits_293 rfl) ?_
                refine Eq.trans (q_iconst (x := 1) dX11_fits_294 rfl) ?_
                refine Eq.trans (q_icmp_ne 302 dX11_fits_295 rfl) (q_ite2 ?_ ?_)
                · refine Eq.trans (q_iconst (x := 1) dX11_fits_298 rfl) ?_
                  refine Eq.trans (q_goto 319 dX11_fits_299 rfl) ?_
                  rfl
                · refine Eq.trans (q_iconst (x := 0) dX11_fits_302 rfl) ?_
                  refine Eq.trans (q_goto 319 dX11_fits_303 rfl) ?_
                  rfl
              · refine Eq.trans (q_iload_n dX11_fits_306 rfl) ?_
                refine Eq.trans (q_iload dX11_fits_307 rfl) ?_
                refine Eq.trans (q_iconst (x := 4) dX11_fits_309 rfl) ?_
                refine Eq.trans (q_isub dX11_fits_310) ?_
                refine Eq.trans (q_icmp_ne 318 dX11_fits_311 rfl) (q_ite2 ?_ ?_)
                · refine Eq.trans (q_iconst (x := 1) dX11_fits_314 rfl) ?_
                  refine Eq.trans (q_goto 319 dX11_fits_315 rfl) ?_
                  rfl
                · refine Eq.trans (q_iconst (x := 0) dX11_fits_318 rfl) ?_
                  rfl
  · refine Eq.trans (q_iload dX11_fits_155 rfl) ?_
    refine Eq.trans (q_if_eq 174 dX11_fits_157 rfl) (q_ite2 ?_ ?_)
    · rfl
    · refine Eq.trans (q_iload_n dX11_fits_160 rfl) ?_
      refine Eq.trans (q_if_eq 170 dX11_fits_161 rfl) (q_ite2 ?_ ?_)
      · rfl
      · refine Eq.trans (q_iload_n dX11_fits_164 rfl) ?_
        refine Eq.trans (q_iload dX11_fits_165 rfl) ?_
        refine Eq.trans (q_icmp_ne 174 dX11_fits_167 rfl) (q_ite2 ?_ ?_)
        · rfl
        · rfl
theorem e_X11_fits_170 (v1 : Int32) (v2 : Int32) (v3 : Int32) (v4 : Int32) (v5 : Int32) (v6 : Int32) (h : mx_H)  : mx_D (2, mm_X11_fits, 170, [.ref 47, .int v1, .int v2, .int v3, .int v4, .int v5, .int v6], []) h = mx_D (2, mm_X11_fits, 175, [.ref 47, .int v1, .int v2, .int v3, .int v4, .int v5, .int v6], [.int 1]) h := by
  refine Eq.trans (q_iconst (x := 1) dX11_fits_170 rfl) ?_
  refine Eq.trans (q_goto 175 dX11_fits_171 rfl) ?_
  rfl
theorem e_X11_fits_174 (v1 : Int32) (v2 : Int32) (v3 : Int32) (v4 : Int32) (v5 : Int32) (v6 : Int32) (h : mx_H)  : mx_D (2, mm_X11_fits, 174, [.ref 47, .int v1, .int v2, .int v3, .int v4, .int v5, .int v6], []) h = mx_D (2, mm_X11_fits, 175, [.ref 47, .int v1, .int v2, .int v3, .int v4, .int v5, .int v6], [.int 0]) h := by
  refine Eq.trans (q_iconst (x := 0) dX11_fits_174 rfl) ?_
  rfl
theorem e_X11_fits_175 (v1 : Int32) (v2 : Int32) (v3 : Int32) (v4 : Int32) (v5 : Int32) (v6 : Int32) (s0 : Int32) (h : mx_H)  : mx_D (2, mm_X11_fits, 175, [.ref 47, .int v1, .int v2, .int v3, .int v4, .int v5, .int v6], [.int s0]) h = if narrow .boolean (.int s0) = .int s0 then some (some (.int s0), h) else none := by
  exact q_ret dX11_fits_175 rfl
theorem e_X11_fits_200 (v1 : Int32) (v2 : Int32) (v3 : Int32) (v4 : Int32) (v5 : Int32) (v6 : Int32) (h : mx_H)  : mx_D (2, mm_X11_fits, 200, [.ref 47, .int v1, .int v2, .int v3, .int v4, .int v5, .int v6], []) h = mx_D (2, mm_X11_fits, 205, [.ref 47, .int v1, .int v2, .int v3, .int v4, .int v5, .int v6], [.int 1]) h := by
  refine Eq.trans (q_iconst (x := 1) dX11_fits_200 rfl) ?_
  refine Eq.trans (q_goto 205 dX11_fits_201 rfl) ?_
  rfl
theorem e_X11_fits_204 (v1 : Int32) (v2 : Int32) (v3 : Int32) (v4 : Int32) (v5 : Int32) (v6 : Int32) (h : mx_H)  : mx_D (2, mm_X11_fits, 204, [.ref 47, .int v1, .int v2, .int v3, .int v4, .int v5, .int v6], []) h = mx_D (2, mm_X11_fits, 205, [.ref 47, .int v1, .int v2, .int v3, .int v4, .int v5, .int v6], [.int 0]) h := by
  refine Eq.trans (q_iconst (x := 0) dX11_fits_204 rfl) ?_
  rfl
theorem e_X11_fits_205 (v1 : Int32) (v2 : Int32) (v3 : Int32) (v4 : Int32) (v5 : Int32) (v6 : Int32) (s0 : Int32) (h : mx_H)  : mx_D (2, mm_X11_fits, 205, [.ref 47, .int v1, .int v2, .int v3, .int v4, .int v5, .int v6], [.int s0]) h = if narrow .boolean (.int s0) = .int s0 then some (some (.int s0), h) else none := by
  exact q_ret dX11_fits_205 rfl
theorem e_X11_fits_232 (v1 : Int32) (v2 : Int32) (v3 : Int32) (v4 : Int32) (v5 : Int32) (v6 : Int32) (h : mx_H)  : mx_D (2, mm_X11_fits, 232, [.ref 47, .int v1, .int v2, .int v3, .int v4, .int v5, .int v6], []) h = mx_D (2, mm_X11_fits, 233, [.ref 47, .int v1, .int v2, .int v3, .int v4, .int v5, .int v6], [.int 0]) h := by
  refine Eq.trans (q_iconst (x := 0) dX11_fits_232 rfl) ?_
  rfl
theorem e_X11_fits_233 (v1 : Int32) (v2 : Int32) (v3 : Int32) (v4 : Int32) (v5 : Int32) (v6 : Int32) (s0 : Int32) (h : mx_H)  : mx_D (2, mm_X11_fits, 233, [.ref 47, .int v1, .int v2, .int v3, .int v4, .int v5, .int v6], [.int s0]) h = if narrow .boolean (.int s0) = .int s0 then some (some (.int s0), h) else none := by
  exact q_ret dX11_fits_233 rfl
theorem e_X11_fits_248 (v1 : Int32) (v2 : Int32) (v3 : Int32) (v4 : Int32) (v5 : Int32) (v6 : Int32) (h : mx_H)  : mx_D (2, mm_X11_fits, 248, [.ref 47, .int v1, .int v2, .int v3, .int v4, .int v5, .int v6], []) h = if v5 = 0 then mx_D (2, mm_X11_fits, 269, [.ref 47, .int v1, .int v2, .int v3, .int v4, .int v5, .int v6], []) h else (if mx_in v1 12 = true then if 4 < (v3 + (h.1 60 v1.toNatClampNeg)) then mx_D (2, mm_X11_fits, 269, [.ref 47, .int v1, .int v2, .int v3, .int v4, .int v5, .int v6], []) h else (mx_D (2, mm_X11_fits, 270, [.ref 47, .int v1, .int v2, .int v3, .int v4, .int v5, .int v6], [.int 1]) h) else none) := by
  refine Eq.trans (q_iload dX11_fits_248 rfl) ?_
  refine Eq.trans (q_if_eq 269 dX11_fits_250 rfl) (q_ite2 ?_ ?_)
  · rfl
  · refine Eq.trans (q_iload_n dX11_fits_253 rfl) ?_
    refine Eq.trans (q_aload_n dX11_fits_254 rfl rfl) ?_
    refine Eq.trans (q_getf dX11_fits_255 mx_fld_11_46 (gf_47_23 _)) ?_
    refine Eq.trans (q_iload_n dX11_fits_258 rfl) ?_
    refine Eq.trans (q_ld (w := 0) (by decide) dX11_fits_259 (al_60 _ _)) (q_ite ?_)
    refine Eq.trans (q_iadd dX11_fits_260) ?_
    refine Eq.trans (q_iconst (x := 4) dX11_fits_261 rfl) ?_
    refine Eq.trans (q_icmp_gt 269 dX11_fits_262 rfl) (q_ite2 ?_ ?_)
    · rfl
    · refine Eq.trans (q_iconst (x := 1) dX11_fits_265 rfl) ?_
      refine Eq.trans (q_goto 270 dX11_fits_266 rfl) ?_
      rfl
theorem e_X11_fits_269 (v1 : Int32) (v2 : Int32) (v3 : Int32) (v4 : Int32) (v5 : Int32) (v6 : Int32) (h : mx_H)  : mx_D (2, mm_X11_fits, 269, [.ref 47, .int v1, .int v2, .int v3, .int v4, .int v5, .int v6], []) h = mx_D (2, mm_X11_fits, 270, [.ref 47, .int v1, .int v2, .int v3, .int v4, .int v5, .int v6], [.int 0]) h := by
  refine Eq.trans (q_iconst (x := 0) dX11_fits_269 rfl) ?_
  rfl
theorem e_X11_fits_270 (v1 : Int32) (v2 : Int32) (v3 : Int32) (v4 : Int32) (v5 : Int32) (v6 : Int32) (s0 : Int32) (h : mx_H)  : mx_D (2, mm_X11_fits, 270, [.ref 47, .int v1, .int v2, .int v3, .int v4, .int v5, .int v6], [.int s0]) h = if narrow .boolean (.int s0) = .int s0 then some (some (.int s0), h) else none := by
  exact q_ret dX11_fits_270 rfl
theorem e_X11_fits_319 (v1 : Int32) (v2 : Int32) (v3 : Int32) (v4 : Int32) (v5 : Int32) (v6 : Int32) (s0 : Int32) (h : mx_H)  : mx_D (2, mm_X11_fits, 319, [.ref 47, .int v1, .int v2, .int v3, .int v4, .int v5, .int v6], [.int s0]) h = if narrow .boolean (.int s0) = .int s0 then some (some (.int s0), h) else none := by
  exact q_ret dX11_fits_319 rfl
theorem e_X11_build_0 (v1 : Int32) (h : mx_H)  : mx_D (3, mm_X11_build, 0, [.ref 47, .int v1, mx_junk, mx_junk, mx_junk, mx_junk, mx_junk, mx_junk, mx_junk, mx_junk], []) h = if mx_in v1 12 = true then (mx_C mm_X11_parts [.int (h.1 56 v1.toNatClampNeg)] h).bind (fun o => mx_D (3, mm_X11_build, 11, [.ref 47, .int v1, .int (h.1 56 v1.toNatClampNeg), mx_junk, mx_junk, mx_junk, mx_junk, mx_junk, mx_junk, mx_junk], o.1.toList ++ []) o.2) else none := by
  refine Eq.trans (q_aload_n dX11_build_0 rfl rfl) ?_
  refine Eq.trans (q_getf dX11_build_1 mx_fld_11_34 (gf_47_19 _)) ?_
  refine Eq.trans (q_iload_n dX11_build_4 rfl) ?_
  refine Eq.trans (q_ld (w := 0) (by decide) dX11_build_5 (al_56 _ _)) (q_ite ?_)
  refine Eq.trans (q_istore_n (L' := [.ref 47, .int v1, .int (h.1 56 v1.toNatClampNeg), mx_junk, mx_junk, mx_junk, mx_junk, mx_junk, mx_junk, mx_junk]) dX11_build_6 (Nat.le_of_ble_eq_true rfl) rfl) ?_
  refine Eq.trans (q_iload_n dX11_build_7 rfl) ?_
  exact q_call1 (as := [.int (h.1 56 v1.toNatClampNeg)]) (rest := []) dX11_build_8 mx_inv_11_253 rfl rfl ⟨Nat.le_of_ble_eq_true rfl, Nat.le_of_ble_eq_true rfl, (Nat.le_of_ble_eq_true rfl)⟩
theorem c_X11_build (v1 : Int32) (h : mx_H) : mx_C mm_X11_build [.ref 47, .int v1] h = mx_D (3, mm_X11_build, 0, [.ref 47, .int v1, mx_junk, mx_junk, mx_junk, mx_junk, mx_junk, mx_junk, mx_junk, mx_junk], []) h := rfl
theorem e_X11_build_11 (v1 : Int32) (v2 : Int32) (s0 : Int32) (h : mx_H)  : mx_D (3, mm_X11_build, 11, [.ref 47, .int v1, .int v2, mx_junk, mx_junk, mx_junk, mx_junk, mx_junk, mx_junk, mx_junk], [.int s0]) h = if mx_in (3 * v1) 36 = true then if s0 ≤ 1 then mx_D (3, mm_X11_build, 41, [.ref 47, .int v1, .int v2, .int s0, .int (h.1 59 ((3 * v1).toNatClampNeg)), mx_junk, mx_junk, mx_junk, mx_junk, mx_junk], [.int ((-1))]) h else (if mx_in ((3 * v1) + 1) 36 = true then mx_D (3, mm_X11_build, 41, [.ref 47, .int v1, .int v2, .int s0, .int (h.1 59 ((3 * v1).toNatClampNeg)), mx_junk, mx_junk, mx_junk, mx_junk, mx_junk], [.int (h.1 59 (((3 * v1) + 1).toNatClampNeg))]) h else none) else none := by
  refine Eq.trans (q_istore_n (L' := [.ref 47, .int v1, .int v2, .int s0, mx_junk, mx_junk, mx_junk, mx_junk, mx_junk, mx_junk]) dX11_build_11 (Nat.le_of_ble_eq_true rfl) rfl) ?_
  refine Eq.trans (q_aload_n dX11_build_12 rfl rfl) ?_
  refine Eq.trans (q_getf dX11_build_13 mx_fld_11_43 (gf_47_22 _)) ?_
  refine Eq.trans (q_iconst (x := 3) dX11_build_16 rfl) ?_
  refine Eq.trans (q_iload_n dX11_build_17 rfl) ?_
  refine Eq.trans (q_imul dX11_build_18) ?_
  refine Eq.trans (q_ld (w := 0) (by decide) dX11_build_19 (al_59 _ _)) (q_ite ?_)
  refine Eq.trans (q_istore (L' := [.ref 47, .int v1, .int v2, .int s0, .int (h.1 59 ((3 * v1).toNatClampNeg)), mx_junk, mx_junk, mx_junk, mx_junk, mx_junk]) dX11_build_20 (Nat.le_of_ble_eq_true rfl) rfl) ?_
  refine Eq.trans (q_iload_n dX11_build_22 rfl) ?_
  refine Eq.trans (q_iconst (x := 1) dX11_build_23 rfl) ?_
  refine Eq.trans (q_icmp_le 40 dX11_build_24 rfl) (q_ite2 ?_ ?_)
  · refine Eq.trans (q_iconst (x := (-1)) dX11_build_40 rfl) ?_
    rfl
  · refine Eq.trans (q_aload_n dX11_build_27 rfl rfl) ?_
    refine Eq.trans (q_getf dX11_build_28 mx_fld_11_43 (gf_47_22 _)) ?_
    refine Eq.trans (q_iconst (x := 3) dX11_build_31 rfl) ?_
    refine Eq.trans (q_iload_n dX11_build_32 rfl) ?_
    refine Eq.trans (q_imul dX11_build_33) ?_
    refine Eq.trans (q_iconst (x := 1) dX11_build_34 rfl) ?_
    refine Eq.trans (q_iadd dX11_build_35) ?_
    refine Eq.trans (q_ld (w := 0) (by decide) dX11_build_36 (al_59 _ _)) (q_ite ?_)
    refine Eq.trans (q_goto 41 dX11_build_37 rfl) ?_
    rfl
theorem e_X11_build_41 (v1 : Int32) (v2 : Int32) (v3 : Int32) (v4 : Int32) (s0 : Int32) (h : mx_H)  : mx_D (3, mm_X11_build, 41, [.ref 47, .int v1, .int v2, .int v3, .int v4, mx_junk, mx_junk, mx_junk, mx_junk, mx_junk], [.int s0]) h = if v3 ≤ 2 then mx_D (3, mm_X11_build, 62, [.ref 47, .int v1, .int v2, .int v3, .int v4, .int s0, mx_junk, mx_junk, mx_junk, mx_junk], [.int ((-1))]) h else (if mx_in ((3 * v1) + 2) 36 = true then mx_D (3, mm_X11_build, 62, [.ref 47, .int v1, .int v2, .int v3, .int v4, .int s0, mx_junk, mx_junk, mx_junk, mx_junk], [.int (h.1 59 (((3 * v1) + 2).toNatClampNeg))]) h else none) := by
  refine Eq.trans (q_istore (L' := [.ref 47, .int v1, .int v2, .int v3, .int v4, .int s0, mx_junk, mx_junk, mx_junk, mx_junk]) dX11_build_41 (Nat.le_of_ble_eq_true rfl) rfl) ?_
  refine Eq.trans (q_iload_n dX11_build_43 rfl) ?_
  refine Eq.trans (q_iconst (x := 2) dX11_build_44 rfl) ?_
  refine Eq.trans (q_icmp_le 61 dX11_build_45 rfl) (q_ite2 ?_ ?_)
  · refine Eq.trans (q_iconst (x := (-1)) dX11_build_61 rfl) ?_
    rfl
  · refine Eq.trans (q_aload_n dX11_build_48 rfl rfl) ?_
    refine Eq.trans (q_getf dX11_build_49 mx_fld_11_43 (gf_47_22 _)) ?_
    refine Eq.trans (q_iconst (x := 3) dX11_build_52 rfl) ?_
    refine Eq.trans (q_iload_n dX11_build_53 rfl) ?_
    refine Eq.trans (q_imul dX11_build_54) ?_
    refine Eq.trans (q_iconst (x := 2) dX11_build_55 rfl) ?_
    refine Eq.trans (q_iadd dX11_build_56) ?_
    refine Eq.trans (q_ld (w := 0) (by decide) dX11_build_57 (al_59 _ _)) (q_ite ?_)
    refine Eq.trans (q_goto 62 dX11_build_58 rfl) ?_
    rfl
theorem e_X11_build_62 (v1 : Int32) (v2 : Int32) (v3 : Int32) (v4 : Int32) (v5 : Int32) (s0 : Int32) (h : mx_H)  : mx_D (3, mm_X11_build, 62, [.ref 47, .int v1, .int v2, .int v3, .int v4, .int v5, mx_junk, mx_junk, mx_junk, mx_junk], [.int s0]) h = if mx_in v4 130 = true then (mx_C mm_X11_in [.int v2, .int 4, .int 10] h).bind (fun o => mx_D (3, mm_X11_build, 80, [.ref 47, .int v1, .int v2, .int v3, .int v4, .int v5, .int s0, .int (h.1 50 v4.toNatClampNeg), mx_junk, mx_junk], o.1.toList ++ []) o.2) else none := by
  refine Eq.trans (q_istore (L' := [.ref 47, .int v1, .int v2, .int v3, .int v4, .int v5, .int s0, mx_junk, mx_junk, mx_junk]) dX11_build_62 (Nat.le_of_ble_eq_true rfl) rfl) ?_
  refine Eq.trans (q_aload_n dX11_build_64 rfl rfl) ?_
  refine Eq.trans (q_getf dX11_build_65 mx_fld_11_16 (gf_47_11 _)) ?_
  refine Eq.trans (q_iload dX11_build_68 rfl) ?_
  refine Eq.trans (q_ld (w := 0) (by decide) dX11_build_70 (al_50 _ _)) (q_ite ?_)
  refine Eq.trans (q_istore (L' := [.ref 47, .int v1, .int v2, .int v3, .int v4, .int v5, .int s0, .int (h.1 50 v4.toNatClampNeg), mx_junk, mx_junk]) dX11_build_71 (Nat.le_of_ble_eq_true rfl) rfl) ?_
  refine Eq.trans (q_iload_n dX11_build_73 rfl) ?_
  refine Eq.trans (q_iconst (x := 4) dX11_build_74 rfl) ?_
  refine Eq.trans (q_bipush (x := 10) dX11_build_75 rfl) ?_
  exact q_call1 (as := [.int v2, .int 4, .int 10]) (rest := []) dX11_build_77 mx_inv_11_84 rfl rfl ⟨Nat.le_of_ble_eq_true rfl, Nat.le_of_ble_eq_true rfl, (Nat.le_of_ble_eq_true rfl)⟩
theorem e_X11_build_80 (v1 : Int32) (v2 : Int32) (v3 : Int32) (v4 : Int32) (v5 : Int32) (v6 : Int32) (v7 : Int32) (s0 : Int32) (h : mx_H)  : mx_D (3, mm_X11_build, 80, [.ref 47, .int v1, .int v2, .int v3, .int v4, .int v5, .int v6, .int v7, mx_junk, mx_junk], [.int s0]) h = if s0 = 0 then (mx_C mm_X11_in [.int v2, .int 25, .int 28] h).bind (fun o => mx_D (3, mm_X11_build, 91, [.ref 47, .int v1, .int v2, .int v3, .int v4, .int v5, .int v6, .int v7, mx_junk, mx_junk], o.1.toList ++ []) o.2) else (mx_D (3, mm_X11_build, 94, [.ref 47, .int v1, .int v2, .int v3, .int v4, .int v5, .int v6, .int v7, mx_junk, mx_junk], []) h) := by
  refine Eq.trans (q_if_ne 94 dX11_build_80 rfl) (q_ite2 ?_ ?_)
  · refine Eq.trans (q_iload_n dX11_build_83 rfl) ?_
    refine Eq.trans (q_bipush (x := 25) dX11_build_84 rfl) ?_
    refine Eq.trans (q_bipush (x := 28) dX11_build_86 rfl) ?_
    exact q_call1 (as := [.int v2, .int 25, .int 28]) (rest := []) dX11_build_88 mx_inv_11_84 rfl rfl ⟨Nat.le_of_ble_eq_true rfl, Nat.le_of_ble_eq_true rfl, (Nat.le_of_ble_eq_true rfl)⟩
  · rfl
theorem e_X11_build_91 (v1 : Int32) (v2 : Int32) (v3 : Int32) (v4 : Int32) (v5 : Int32) (v6 : Int32) (v7 : Int32) (s0 : Int32) (h : mx_H)  : mx_D (3, mm_X11_build, 91, [.ref 47, .int v1, .int v2, .int v3, .int v4, .int v5, .int v6, .int v7, mx_junk, mx_junk], [.int s0]) h = if s0 = 0 then mx_D (3, mm_X11_build, 99, [.ref 47, .int v1, .int v2, .int v3, .int v4, .int v5, .int v6, .int v7, mx_junk, mx_junk], [.int 0]) h else (mx_D (3, mm_X11_build, 94, [.ref 47, .int v1, .int v2, .int v3, .int v4, .int v5, .int v6, .int v7, mx_junk, mx_junk], []) h) := by
  refine Eq.trans (q_if_eq 98 dX11_build_91 rfl) (q_ite2 ?_ ?_)
  · refine Eq.trans (q_iconst (x := 0) dX11_build_98 rfl) ?_
    rfl
  · rfl
theorem e_X11_build_94 (v1 : Int32) (v2 : Int32) (v3 : Int32) (v4 : Int32) (v5 : Int32) (v6 : Int32) (v7 : Int32) (h : mx_H)  : mx_D (3, mm_X11_build, 94, [.ref 47, .int v1, .int v2, .int v3, .int v4, .int v5, .int v6, .int v7, mx_junk, mx_junk], []) h = mx_D (3, mm_X11_build, 99, [.ref 47, .int v1, .int v2, .int v3, .int v4, .int v5, .int v6, .int v7, mx_junk, mx_junk], [.int 1]) h := by
  refine Eq.trans (q_iconst (x := 1) dX11_build_94 rfl) ?_
  refine Eq.trans (q_goto 99 dX11_build_95 rfl) ?_
  rfl
theorem e_X11_build_99 (v1 : Int32) (v2 : Int32) (v3 : Int32) (v4 : Int32) (v5 : Int32) (v6 : Int32) (v7 : Int32) (s0 : Int32) (h : mx_H)  : mx_D (3, mm_X11_build, 99, [.ref 47, .int v1, .int v2, .int v3, .int v4, .int v5, .int v6, .int v7, mx_junk, mx_junk], [.int s0]) h = if s0 = 0 then if v2 = 11 then if mx_in v5 130 = true then mx_D (3, mm_X11_build, 208, [.ref 47, .int v1, .int v2, .int v3, .int v4, .int v5, .int v6, .int v7, .int s0, mx_junk], [.int (h.1 50 v5.toNatClampNeg)]) h else none else (if v2 = 29 then if mx_in v5 130 = true then mx_D (3, mm_X11_build, 208, [.ref 47, .int v1, .int v2, .int v3, .int v4, .int v5, .int v6, .int v7, .int s0, mx_junk], [.int (v7 + (h.1 50 v5.toNatClampNeg))]) h else none else (if v2 = 30 then if mx_in v1 12 = true then if mx_in v1 12 = true then mx_D (3, mm_X11_build, 208, [.ref 47, .int v1, .int v2, .int v3, .int v4, .int v5, .int v6, .int v7, .int s0, mx_junk], [.int (((h.1 60 v1.toNatClampNeg) - (h.1 61 v1.toNatClampNeg)) + 1)]) h else none else none else (if v2 = 31 then mx_D (3, mm_X11_build, 181, [.ref 47, .int v1, .int v2, .int v3, .int v4, .int v5, .int v6, .int v7, .int s0, mx_junk], []) h else (if v2 = 32 then mx_D (3, mm_X11_build, 181, [.ref 47, .int v1, .int v2, .int v3, .int v4, .int v5, .int v6, .int v7, .int s0, mx_junk], []) h else (if v2 = 33 then mx_D (3, mm_X11_build, 208, [.ref 47, .int v1, .int v2, .int v3, .int v4, .int v5, .int v6, .int v7, .int s0, mx_junk], [.int (v7 - 4)]) h else (mx_D (3, mm_X11_build, 208, [.ref 47, .int v1, .int v2, .int v3, .int v4, .int v5, .int v6, .int v7, .int s0, mx_junk], [.int v7]) h)))))) else (mx_D (3, mm_X11_build, 208, [.ref 47, .int v1, .int v2, .int v3, .int v4, .int v5, .int v6, .int v7, .int s0, mx_junk], [.int 0]) h) := by
  refine Eq.trans (q_istore (L' := [.ref 47, .int v1, .int v2, .int v3, .int v4, .int v5, .int v6, .int v7, .int s0, mx_junk]) dX11_build_99 (Nat.le_of_ble_eq_true rfl) rfl) ?_
  refine Eq.trans (q_iload dX11_build_101 rfl) ?_
  refine Eq.trans (q_if_eq 110 dX11_build_103 rfl) (q_ite2 ?_ ?_)
  · refine Eq.trans (q_iload_n dX11_build_110 rfl) ?_
    refine Eq.trans (q_bipush (x := 11) dX11_build_111 rfl) ?_
    refine Eq.trans (q_icmp_ne 126 dX11_build_113 rfl) (q_ite2 ?_ ?_)
    · refine Eq.trans (q_aload_n dX11_build_116 rfl rfl) ?_
      refine Eq.trans (q_getf dX11_build_117 mx_fld_11_16 (gf_47_11 _)) ?_
      refine Eq.trans (q_iload dX11_build_120 rfl) ?_
      refine Eq.trans (q_ld (w := 0) (by decide) dX11_build_122 (al_50 _ _)) (q_ite ?_)
      refine Eq.trans (q_goto 208 dX11_build_123 rfl) ?_
      rfl
    · refine Eq.trans (q_iload_n dX11_build_126 rfl) ?_
      refine Eq.trans (q_bipush (x := 29) dX11_build_127 rfl) ?_
      refine Eq.trans (q_icmp_ne 145 dX11_build_129 rfl) (q_ite2 ?_ ?_)
      · refine Eq.trans (q_iload dX11_build_132 rfl) ?_
        refine Eq.trans (q_aload_n dX11_build_134 rfl rfl) ?_
        refine Eq.trans (q_getf dX11_build_135 mx_fld_11_16 (gf_47_11 _)) ?_
        refine Eq.trans (q_iload dX11_build_138 rfl) ?_
        refine Eq.trans (q_ld (w := 0) (by decide) dX11_build_140 (al_50 _ _)) (q_ite ?_)
        refine Eq.trans (q_iadd dX11_build_141) ?_
        refine Eq.trans (q_goto 208 dX11_build_142 rfl) ?_
        rfl
      · refine Eq.trans (q_iload_n dX11_build_145 rfl) ?_
        refine Eq.trans (q_bipush (x := 30) dX11_build_146 rfl) ?_
        refine Eq.trans (q_icmp_ne 169 dX11_build_148 rfl) (q_ite2 ?_ ?_)
        · refine Eq.trans (q_aload_n dX11_build_151 rfl rfl) ?_
          refine Eq.trans (q_getf dX11_build_152 mx_fld_11_46 (gf_47_23 _)) ?_
          refine Eq.trans (q_iload_n dX11_build_155 rfl) ?_
          refine Eq.trans (q_ld (w := 0) (by decide) dX11_build_156 (al_60 _ _)) (q_ite ?_)
          refine Eq.trans (q_aload_n dX11_build_157 rfl rfl) ?_
          refine Eq.trans (q_getf dX11_build_158 mx_fld_11_49 (gf_47_24 _)) ?_
          refine Eq.trans (q_iload_n dX11_build_161 rfl) ?_
          refine Eq.trans (q_ld (w := 0) (by decide) dX11_build_162 (al_61 _ _)) (q_ite ?_)
          refine Eq.trans (q_isub dX11_build_163) ?_
          refine Eq.trans (q_iconst (x := 1) dX11_build_164 rfl) ?_
          refine Eq.trans (q_iadd dX11_build_165) ?_
          refine Eq.trans (q_goto 208 dX11_build_166 rfl) ?_
          rfl
        · refine Eq.trans (q_iload_n dX11_build_169 rfl) ?_
          refine Eq.trans (q_bipush (x := 31) dX11_build_170 rfl) ?_
          refine Eq.trans (q_icmp_eq 181 dX11_build_172 rfl) (q_ite2 ?_ ?_)
          · rfl
          · refine Eq.trans (q_iload_n dX11_build_175 rfl) ?_
            refine Eq.trans (q_bipush (x := 32) dX11_build_176 rfl) ?_
            refine Eq.trans (q_icmp_ne 193 dX11_build_178 rfl) (q_ite2 ?_ ?_)
            · rfl
            · refine Eq.trans (q_iload_n dX11_build_193 rfl) ?_
              refine Eq.trans (q_bipush (x := 33) dX11_build_194 rfl) ?_
              refine Eq.trans (q_icmp_ne 206 dX11_build_196 rfl) (q_ite2 ?_ ?_)
              · refine Eq.trans (q_iload dX11_build_199 rfl) ?_
                refine Eq.trans (q_iconst (x := 4) dX11_build_201 rfl) ?_
                refine Eq.trans (q_isub dX11_build_202) ?_
                refine Eq.trans (q_goto 208 dX11_build_203 rfl) ?_
                rfl
              · refine Eq.trans (q_iload dX11_build_206 rfl) ?_
                rfl
  · refine Eq.trans (q_iconst (x := 0) dX11_build_106 rfl) ?_
    refine Eq.trans (q_goto 208 dX11_build_107 rfl) ?_
    rfl
theorem e_X11_build_181 (v1 : Int32) (v2 : Int32) (v3 : Int32) (v4 : Int32) (v5 : Int32) (v6 : Int32) (v7 : Int32) (v8 : Int32) (h : mx_H)  : mx_D (3, mm_X11_build, 181, [.ref 47, .int v1, .int v2, .int v3, .int v4, .int v5, .int v6, .int v7, .int v8, mx_junk], []) h = if mx_in v1 12 = true then mx_D (3, mm_X11_build, 208, [.ref 47, .int v1, .int v2, .int v3, .int v4, .int v5, .int v6, .int v7, .int v8, mx_junk], [.int (v7 + (h.1 60 v1.toNatClampNeg))]) h else none := by
  refine Eq.trans (q_iload dX11_build_181 rfl) ?_
  refine Eq.trans (q_aload_n dX11_build_183 rfl rfl) ?_
  refine Eq.trans (q_getf dX11_build_184 mx_fld_11_46 (gf_47_23 _)) ?_
  refine Eq.trans (q_iload_n dX11_build_187 rfl) ?_
  refine Eq.trans (q_ld (w := 0) (by decide) dX11_build_188 (al_60 _ _)) (q_ite ?_)
  refine Eq.trans (q_iadd dX11_build_189) ?_
  refine Eq.trans (q_goto 208 dX11_build_190 rfl) ?_
  rfl
theorem e_X11_build_208 (v1 : Int32) (v2 : Int32) (v3 : Int32) (v4 : Int32) (v5 : Int32) (v6 : Int32) (v7 : Int32) (v8 : Int32) (s0 : Int32) (h : mx_H)  : mx_D (3, mm_X11_build, 208, [.ref 47, .int v1, .int v2, .int v3, .int v4, .int v5, .int v6, .int v7, .int v8, mx_junk], [.int s0]) h = if mx_in v1 12 = true then if mx_in v1 12 = true then (mx_C mm_X11_make [.ref 47, .int v2, .int s0, .int v4, .int v5, .int v6, .int (h.1 60 v1.toNatClampNeg), .int (h.1 61 v1.toNatClampNeg)] h).bind (fun o => mx_D (3, mm_X11_build, 235, [.ref 47, .int v1, .int v2, .int v3, .int v4, .int v5, .int v6, .int v7, .int v8, .int s0], o.1.toList ++ []) o.2) else none else none := by
  refine Eq.trans (q_istore (L' := [.ref 47, .int v1, .int v2, .int v3, .int v4, .int v5, .int v6, .int v7, .int v8, .int s0]) dX11_build_208 (Nat.le_of_ble_eq_true rfl) rfl) ?_
  refine Eq.trans (q_aload_n dX11_build_210 rfl rfl) ?_
  refine Eq.trans (q_iload_n dX11_build_211 rfl) ?_
  refine Eq.trans (q_iload dX11_build_212 rfl) ?_
  refine Eq.trans (q_iload dX11_build_214 rfl) ?_
  refine Eq.trans (q_iload dX11_build_216 rfl) ?_
  refine Eq.trans (q_iload dX11_build_218 rfl) ?_
  refine Eq.trans (q_aload_n dX11_build_220 rfl rfl) ?_
  refine Eq.trans (q_getf dX11_build_221 mx_fld_11_46 (gf_47_23 _)) ?_
  refine Eq.trans (q_iload_n dX11_build_224 rfl) ?_
  refine Eq.trans (q_ld (w := 0) (by decide) dX11_build_225 (al_60 _ _)) (q_ite ?_)
  refine Eq.trans (q_aload_n dX11_build_226 rfl rfl) ?_
  refine Eq.trans (q_getf dX11_build_227 mx_fld_11_49 (gf_47_24 _)) ?_
  refine Eq.trans (q_iload_n dX11_build_230 rfl) ?_
  refine Eq.trans (q_ld (w := 0) (by decide) dX11_build_231 (al_61 _ _)) (q_ite ?_)
  exact q_call0 (as := [.int v2, .int s0, .int v4, .int v5, .int v6, .int (h.1 60 v1.toNatClampNeg), .int (h.1 61 v1.toNatClampNeg)]) (rest := []) dX11_build_232 mx_inv_11_222 rfl rfl rfl ⟨Nat.le_of_ble_eq_true rfl, Nat.le_of_ble_eq_true rfl, (Nat.le_of_ble_eq_true rfl)⟩
theorem e_X11_build_235 (v1 : Int32) (v2 : Int32) (v3 : Int32) (v4 : Int32) (v5 : Int32) (v6 : Int32) (v7 : Int32) (v8 : Int32) (v9 : Int32) (s0 : Int32) (h : mx_H)  : mx_D (3, mm_X11_build, 235, [.ref 47, .int v1, .int v2, .int v3, .int v4, .int v5, .int v6, .int v7, .int v8, .int v9], [.int s0]) h = some (some (.int s0), h) := by
  exact q_retI dX11_build_235 rfl
theorem e_X11_deliver_0 (v1 : Int32) (v2 : Int32) (h : mx_H)  : mx_D (6, mm_X11_deliver, 0, [.ref 47, .int v1, .int v2, mx_junk, mx_junk, mx_junk, mx_junk], []) h = mx_D (6, mm_X11_deliver, 5, [.ref 47, .int v1, .int v2, .int v1, .int v2, mx_junk, mx_junk], []) h := by
  refine Eq.trans (q_iload_n dX11_deliver_0 rfl) ?_
  refine Eq.trans (q_istore_n (L' := [.ref 47, .int v1, .int v2, .int v1, mx_junk, mx_junk, mx_junk]) dX11_deliver_1 (Nat.le_of_ble_eq_true rfl) rfl) ?_
  refine Eq.trans (q_iload_n dX11_deliver_2 rfl) ?_
  refine Eq.trans (q_istore (L' := [.ref 47, .int v1, .int v2, .int v1, .int v2, mx_junk, mx_junk]) dX11_deliver_3 (Nat.le_of_ble_eq_true rfl) rfl) ?_
  rfl
theorem c_X11_deliver (v1 : Int32) (v2 : Int32) (h : mx_H) : mx_C mm_X11_deliver [.ref 47, .int v1, .int v2] h = mx_D (6, mm_X11_deliver, 0, [.ref 47, .int v1, .int v2, mx_junk, mx_junk, mx_junk, mx_junk], []) h := rfl
theorem e_X11_deliver_5 (v1 : Int32) (v2 : Int32) (v3 : Int32) (v4 : Int32) (v5 : Value) (h : mx_H)  : mx_D (6, mm_X11_deliver, 5, [.ref 47, .int v1, .int v2, .int v3, .int v4, v5, mx_junk], []) h = if (h.1 47 18) ≤ 0 then some (some (.int 1), ((mx_u (mx_u h.1 47 26 v3) 47 27 v4), h.2.1, h.2.2)) else (if mx_in ((h.1 47 18) - 1) 12 = true then if (h.1 56 (((h.1 47 18) - 1).toNatClampNeg)) = 35 then if mx_in ((h.1 47 18) - 1) 12 = true then if (h.1 58 (((h.1 47 18) - 1).toNatClampNeg)) = 0 then if mx_in (3 * ((h.1 47 18) - 1)) 36 = true then if ((mx_u h.1 59 ((3 * ((h.1 47 18) - 1)).toNatClampNeg) v3) 47 2) = 2 then mx_D (6, mm_X11_deliver, 66, [.ref 47, .int v1, .int v2, .int v3, .int v4, .int ((h.1 47 18) - 1), mx_junk], [.int 1, .ref 47]) ((mx_u h.1 59 ((3 * ((h.1 47 18) - 1)).toNatClampNeg) v3), h.2.1, h.2.2) else (mx_D (6, mm_X11_deliver, 66, [.ref 47, .int v1, .int v2, .int v3, .int v4, .int ((h.1 47 18) - 1), mx_junk], [.int 0, .ref 47]) ((mx_u h.1 59 ((3 * ((h.1 47 18) - 1)).toNatClampNeg) v3), h.2.1, h.2.2)) else none else (mx_D (6, mm_X11_deliver, 118, [.ref 47, .int v1, .int v2, .int v3, .int v4, .int ((h.1 47 18) - 1), mx_junk], []) h) else none else (mx_D (6, mm_X11_deliver, 118, [.ref 47, .int v1, .int v2, .int v3, .int v4, .int ((h.1 47 18) - 1), mx_junk], []) h) else none) := by
  refine Eq.trans (q_aload_n dX11_deliver_5 rfl rfl) ?_
  refine Eq.trans (q_getf dX11_deliver_6 mx_fld_11_231 (gf_47_18 _)) ?_
  refine Eq.trans (q_if_le 279 dX11_deliver_9 rfl) (q_ite2 ?_ ?_)
  · refine Eq.trans (q_aload_n dX11_deliver_279 rfl rfl) ?_
    refine Eq.trans (q_iload_n dX11_deliver_280 rfl) ?_
    refine Eq.trans (q_putf dX11_deliver_281 mx_fld_11_262 (pf_47_26 _ _)) ?_
    refine Eq.trans (q_aload_n dX11_deliver_284 rfl rfl) ?_
    refine Eq.trans (q_iload dX11_deliver_285 rfl) ?_
    refine Eq.trans (q_putf dX11_deliver_287 mx_fld_11_265 (pf_47_27 _ _)) ?_
    refine Eq.trans (q_iconst (x := 1) dX11_deliver_290 rfl) ?_
    exact q_retI dX11_deliver_291 rfl
  · refine Eq.trans (q_aload_n dX11_deliver_12 rfl rfl) ?_
    refine Eq.trans (q_getf dX11_deliver_13 mx_fld_11_231 (gf_47_18 _)) ?_
    refine Eq.trans (q_iconst (x := 1) dX11_deliver_16 rfl) ?_
    refine Eq.trans (q_isub dX11_deliver_17) ?_
    refine Eq.trans (q_istore (L' := [.ref 47, .int v1, .int v2, .int v3, .int v4, .int ((h.1 47 18) - 1), mx_junk]) dX11_deliver_18 (Nat.le_of_ble_eq_true rfl) rfl) ?_
    refine Eq.trans (q_aload_n dX11_deliver_20 rfl rfl) ?_
    refine Eq.trans (q_getf dX11_deliver_21 mx_fld_11_34 (gf_47_19 _)) ?_
    refine Eq.trans (q_iload dX11_deliver_24 rfl) ?_
    refine Eq.trans (q_ld (w := 0) (by decide) dX11_deliver_26 (al_56 _ _)) (q_ite ?_)
    refine Eq.trans (q_bipush (x := 35) dX11_deliver_27 rfl) ?_
    refine Eq.trans (q_icmp_ne 118 dX11_deliver_29 rfl) (q_ite2 ?_ ?_)
    · refine Eq.trans (q_aload_n dX11_deliver_32 rfl rfl) ?_
      refine Eq.trans (q_getf dX11_deliver_33 mx_fld_11_40 (gf_47_21 _)) ?_
      refine Eq.trans (q_iload dX11_deliver_36 rfl) ?_
      refine Eq.trans (q_ld (w := 0) (by decide) dX11_deliver_38 (al_58 _ _)) (q_ite ?_)
      refine Eq.trans (q_if_ne 118 dX11_deliver_39 rfl) (q_ite2 ?_ ?_)
      · refine Eq.trans (q_aload_n dX11_deliver_42 rfl rfl) ?_
        refine Eq.trans (q_getf dX11_deliver_43 mx_fld_11_43 (gf_47_22 _)) ?_
        refine Eq.trans (q_iconst (x := 3) dX11_deliver_46 rfl) ?_
        refine Eq.trans (q_iload dX11_deliver_47 rfl) ?_
        refine Eq.trans (q_imul dX11_deliver_49) ?_
        refine Eq.trans (q_iload_n dX11_deliver_50 rfl) ?_
        refine Eq.trans (q_st (w := 0) (by decide) dX11_deliver_51 (as_59 _ _ _)) (q_ite ?_)
        refine Eq.trans (q_aload_n dX11_deliver_52 rfl rfl) ?_
        refine Eq.trans (q_aload_n dX11_deliver_53 rfl rfl) ?_
        refine Eq.trans (q_getf dX11_deliver_54 mx_fld_11_115 (gf_47_2 _)) ?_
        refine Eq.trans (q_iconst (x := 2) dX11_deliver_57 rfl) ?_
        refine Eq.trans (q_icmp_ne 65 dX11_deliver_58 rfl) (q_ite2 ?_ ?_)
        · refine Eq.trans (q_iconst (x := 1) dX11_deliver_61 rfl) ?_
          refine Eq.trans (q_goto 66 dX11_deliver_62 rfl) ?_
          rfl
        · refine Eq.trans (q_iconst (x := 0) dX11_deliver_65 rfl) ?_
          rfl
      · rfl
    · rfl
theorem e_X11_deliver_66 (v1 : Int32) (v2 : Int32) (v3 : Int32) (v4 : Int32) (v5 : Int32) (s1 : Int32) (h : mx_H)  : mx_D (6, mm_X11_deliver, 66, [.ref 47, .int v1, .int v2, .int v3, .int v4, .int v5, mx_junk], [.int s1, .ref 47]) h = (mx_C mm_X11_pass [.ref 47, .int s1] h).bind (fun o => mx_D (6, mm_X11_deliver, 69, [.ref 47, .int v1, .int v2, .int v3, .int v4, .int v5, mx_junk], o.1.toList ++ []) o.2) := by
  exact q_call0 (as := [.int s1]) (rest := []) dX11_deliver_66 mx_inv_11_127 rfl rfl rfl ⟨Nat.le_of_ble_eq_true rfl, Nat.le_of_ble_eq_true rfl, (Nat.le_of_ble_eq_true rfl)⟩
theorem e_X11_deliver_69 (v1 : Int32) (v2 : Int32) (v3 : Int32) (v4 : Int32) (v5 : Int32) (s0 : Int32) (h : mx_H)  : mx_D (6, mm_X11_deliver, 69, [.ref 47, .int v1, .int v2, .int v3, .int v4, .int v5, mx_junk], [.int s0]) h = if s0 = 0 then mx_D (6, mm_X11_deliver, 96, [.ref 47, .int v1, .int v2, .int v3, .int v4, .int v5, mx_junk], []) h else (if (h.1 47 2) = 2 then mx_D (6, mm_X11_deliver, 86, [.ref 47, .int v1, .int v2, .int v3, .int v4, .int v5, mx_junk], [.int 1, .ref 47]) h else (mx_D (6, mm_X11_deliver, 86, [.ref 47, .int v1, .int v2, .int v3, .int v4, .int v5, mx_junk], [.int 0, .ref 47]) h)) := by
  refine Eq.trans (q_if_eq 96 dX11_deliver_69 rfl) (q_ite2 ?_ ?_)
  · rfl
  · refine Eq.trans (q_aload_n dX11_deliver_72 rfl rfl) ?_
    refine Eq.trans (q_aload_n dX11_deliver_73 rfl rfl) ?_
    refine Eq.trans (q_getf dX11_deliver_74 mx_fld_11_115 (gf_47_2 _)) ?_
    refine Eq.trans (q_iconst (x := 2) dX11_deliver_77 rfl) ?_
    refine Eq.trans (q_icmp_ne 85 dX11_deliver_78 rfl) (q_ite2 ?_ ?_)
    · refine Eq.trans (q_iconst (x := 1) dX11_deliver_81 rfl) ?_
      refine Eq.trans (q_goto 86 dX11_deliver_82 rfl) ?_
      rfl
    · refine Eq.trans (q_iconst (x := 0) dX11_deliver_85 rfl) ?_
      rfl
theorem e_X11_deliver_86 (v1 : Int32) (v2 : Int32) (v3 : Int32) (v4 : Int32) (v5 : Int32) (s1 : Int32) (h : mx_H)  : mx_D (6, mm_X11_deliver, 86, [.ref 47, .int v1, .int v2, .int v3, .int v4, .int v5, mx_junk], [.int s1, .ref 47]) h = (mx_C mm_X11_pass [.ref 47, .int s1] h).bind (fun o => mx_D (6, mm_X11_deliver, 89, [.ref 47, .int v1, .int v2, .int v3, .int v4, .int v5, mx_junk], o.1.toList ++ []) o.2) := by
  exact q_call0 (as := [.int s1]) (rest := []) dX11_deliver_86 mx_inv_11_127 rfl rfl rfl ⟨Nat.le_of_ble_eq_true rfl, Nat.le_of_ble_eq_true rfl, (Nat.le_of_ble_eq_true rfl)⟩
theorem e_X11_deliver_89 (v1 : Int32) (v2 : Int32) (v3 : Int32) (v4 : Int32) (v5 : Int32) (s0 : Int32) (h : mx_H)  : mx_D (6, mm_X11_deliver, 89, [.ref 47, .int v1, .int v2, .int v3, .int v4, .int v5, mx_junk], [.int s0]) h = if s0 = 0 then mx_D (6, mm_X11_deliver, 96, [.ref 47, .int v1, .int v2, .int v3, .int v4, .int v5, mx_junk], []) h else (mx_D (6, mm_X11_deliver, 97, [.ref 47, .int v1, .int v2, .int v3, .int v4, .int v5, mx_junk], [.int 1]) h) := by
  refine Eq.trans (q_if_eq 96 dX11_deliver_89 rfl) (q_ite2 ?_ ?_)
  · rfl
  · refine Eq.trans (q_iconst (x := 1) dX11_deliver_92 rfl) ?_
    refine Eq.trans (q_goto 97 dX11_deliver_93 rfl) ?_
    rfl
theorem e_X11_deliver_96 (v1 : Int32) (v2 : Int32) (v3 : Int32) (v4 : Int32) (v5 : Int32) (h : mx_H)  : mx_D (6, mm_X11_deliver, 96, [.ref 47, .int v1, .int v2, .int v3, .int v4, .int v5, mx_junk], []) h = mx_D (6, mm_X11_deliver, 97, [.ref 47, .int v1, .int v2, .int v3, .int v4, .int v5, mx_junk], [.int 0]) h := by
  refine Eq.trans (q_iconst (x := 0) dX11_deliver_96 rfl) ?_
  rfl
theorem e_X11_deliver_97 (v1 : Int32) (v2 : Int32) (v3 : Int32) (v4 : Int32) (v5 : Int32) (s0 : Int32) (h : mx_H)  : mx_D (6, mm_X11_deliver, 97, [.ref 47, .int v1, .int v2, .int v3, .int v4, .int v5, mx_junk], [.int s0]) h = if mx_in v5 12 = true then if s0 = 0 then mx_D (6, mm_X11_deliver, 117, [.ref 47, .int v1, .int v2, .int v3, .int v4, .int v5, .int s0], [.int ((-1))]) ((mx_u h.1 58 v5.toNatClampNeg 1), h.2.1, h.2.2) else (mx_D (6, mm_X11_deliver, 117, [.ref 47, .int v1, .int v2, .int v3, .int v4, .int v5, .int s0], [.int 0]) ((mx_u h.1 58 v5.toNatClampNeg 1), h.2.1, h.2.2)) else none := by
  refine Eq.trans (q_istore (L' := [.ref 47, .int v1, .int v2, .int v3, .int v4, .int v5, .int s0]) dX11_deliver_97 (Nat.le_of_ble_eq_true rfl) rfl) ?_
  refine Eq.trans (q_aload_n dX11_deliver_99 rfl rfl) ?_
  refine Eq.trans (q_getf dX11_deliver_100 mx_fld_11_40 (gf_47_21 _)) ?_
  refine Eq.trans (q_iload dX11_deliver_103 rfl) ?_
  refine Eq.trans (q_iconst (x := 1) dX11_deliver_105 rfl) ?_
  refine Eq.trans (q_st (w := 0) (by decide) dX11_deliver_106 (as_58 _ _ _)) (q_ite ?_)
  refine Eq.trans (q_iload dX11_deliver_107 rfl) ?_
  refine Eq.trans (q_if_eq 116 dX11_deliver_109 rfl) (q_ite2 ?_ ?_)
  · refine Eq.trans (q_iconst (x := (-1)) dX11_deliver_116 rfl) ?_
    rfl
  · refine Eq.trans (q_iconst (x := 0) dX11_deliver_112 rfl) ?_
    refine Eq.trans (q_goto 117 dX11_deliver_113 rfl) ?_
    rfl
theorem e_X11_deliver_117 (v1 : Int32) (v2 : Int32) (v3 : Int32) (v4 : Int32) (v5 : Int32) (v6 : Int32) (s0 : Int32) (h : mx_H)  : mx_D (6, mm_X11_deliver, 117, [.ref 47, .int v1, .int v2, .int v3, .int v4, .int v5, .int v6], [.int s0]) h = some (some (.int s0), h) := by
  exact q_retI dX11_deliver_117 rfl
