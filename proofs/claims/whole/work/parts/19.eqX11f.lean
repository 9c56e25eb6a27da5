theorem c_X11_perform  (h : mx_H) : mx_C mm_X11_perform [.ref 47] h = mx_D (11, mm_X11_perform, 0, [.ref 47, mx_junk, mx_junk], []) h := rfl
theorem e_X11_perform_4  (h : mx_H)  : mx_D (11, mm_X11_perform, 4, [.ref 47, mx_junk, mx_junk], []) h = if (h.1 47 2) = 1 then mx_D (11, mm_X11_perform, 18, [.ref 47, mx_junk, mx_junk], [.int 1, .ref 47]) h else (mx_D (11, mm_X11_perform, 18, [.ref 47, mx_junk, mx_junk], [.int 0, .ref 47]) h) := by
  refine Eq.trans (q_aload_n dX11_perform_4 rfl rfl) ?_
  refine Eq.trans (q_aload_n dX11_perform_5 rfl rfl) ?_
  refine Eq.trans (q_getf dX11_perform_6 mx_fld_11_115 (gf_47_2 _)) ?_
  refine Eq.trans (q_iconst (x := 1) dX11_perform_9 rfl) ?_
  refine Eq.trans (q_icmp_ne 17 dX11_perform_10 rfl) (q_ite2 ?_ ?_)
  · refine Eq.trans (q_iconst (x := 1) dX11_perform_13 rfl) ?_
    refine Eq.trans (q_goto 18 dX11_perform_14 rfl) ?_
    rfl
  · refine Eq.trans (q_iconst (x := 0) dX11_perform_17 rfl) ?_
    rfl
theorem e_X11_perform_18 (s1 : Int32) (h : mx_H)  : mx_D (11, mm_X11_perform, 18, [.ref 47, mx_junk, mx_junk], [.int s1, .ref 47]) h = (mx_C mm_X11_pass [.ref 47, .int s1] h).bind (fun o => mx_D (11, mm_X11_perform, 21, [.ref 47, mx_junk, mx_junk], o.1.toList ++ []) o.2) := by
  exact q_call0 (as := [.int s1]) (rest := []) dX11_perform_18 mx_inv_11_127 rfl rfl rfl ⟨Nat.le_of_ble_eq_true rfl, Nat.le_of_ble_eq_true rfl, (Nat.le_of_ble_eq_true rfl)⟩
theorem e_X11_perform_21 (s0 : Int32) (h : mx_H)  : mx_D (11, mm_X11_perform, 21, [.ref 47, mx_junk, mx_junk], [.int s0]) h = if s0 = 0 then some (some (.int ((-1))), h) else (if (h.1 47 2) = 3 then mx_D (11, mm_X11_perform, 39, [.ref 47, mx_junk, mx_junk], [.int 1]) h else (mx_D (11, mm_X11_perform, 39, [.ref 47, mx_junk, mx_junk], [.int 0]) h)) := by
  refine Eq.trans (q_if_ne 26 dX11_perform_21 rfl) (q_ite2 ?_ ?_)
  · refine Eq.trans (q_iconst (x := (-1)) dX11_perform_24 rfl) ?_
    exact q_retI dX11_perform_25 rfl
  · refine Eq.trans (q_aload_n dX11_perform_26 rfl rfl) ?_
    refine Eq.trans (q_getf dX11_perform_27 mx_fld_11_115 (gf_47_2 _)) ?_
    refine Eq.trans (q_iconst (x := 3) dX11_perform_30 rfl) ?_
    refine Eq.trans (q_icmp_ne 38 dX11_perform_31 rfl) (q_ite2 ?_ ?_)
    · refine Eq.trans (q_iconst (x := 1) dX11_perform_34 rfl) ?_
      refine Eq.trans (q_goto 39 dX11_perform_35 rfl) ?_
      rfl
    · refine Eq.trans (q_iconst (x := 0) dX11_perform_38 rfl) ?_
      rfl
theorem e_X11_perform_39 (s0 : Int32) (h : mx_H)  : mx_D (11, mm_X11_perform, 39, [.ref 47, mx_junk, mx_junk], [.int s0]) h = if s0 = 0 then mx_D (11, mm_X11_perform, 70, [.ref 47, .int s0, mx_junk], []) h else (if (lg_cmp (h.2.1 47 5) 3271146467110380900) = 0 then if (lg_cmp (h.2.1 47 6) 500152823651) = 0 then mx_D (11, mm_X11_perform, 155, [.ref 47, .int s0, mx_junk], [.int 1]) h else (mx_D (11, mm_X11_perform, 70, [.ref 47, .int s0, mx_junk], []) h) else (mx_D (11, mm_X11_perform, 70, [.ref 47, .int s0, mx_junk], []) h)) := by
  refine Eq.trans (q_istore_n (L' := [.ref 47, .int s0, mx_junk]) dX11_perform_39 (Nat.le_of_ble_eq_true rfl) rfl) ?_
  refine Eq.trans (q_iload_n dX11_perform_40 rfl) ?_
  refine Eq.trans (q_if_eq 70 dX11_perform_41 rfl) (q_ite2 ?_ ?_)
  · rfl
  · refine Eq.trans (q_aload_n dX11_perform_44 rfl rfl) ?_
    refine Eq.trans (q_getf dX11_perform_45 mx_fld_11_105 (gf_47_5 _)) ?_
    refine Eq.trans (q_ldc2 dX11_perform_48 mx_ldc2_11_308) ?_
    refine Eq.trans (q_lcmp dX11_perform_51) ?_
    refine Eq.trans (q_if_ne 70 dX11_perform_52 rfl) (q_ite2 ?_ ?_)
    · refine Eq.trans (q_aload_n dX11_perform_55 rfl rfl) ?_
      refine Eq.trans (q_getf dX11_perform_56 mx_fld_11_109 (gf_47_6 _)) ?_
      refine Eq.trans (q_ldc2 dX11_perform_59 mx_ldc2_11_310) ?_
      refine Eq.trans (q_lcmp dX11_perform_62) ?_
      refine Eq.trans (q_if_ne 70 dX11_perform_63 rfl) (q_ite2 ?_ ?_)
      · refine Eq.trans (q_iconst (x := 1) dX11_perform_66 rfl) ?_
        refine Eq.trans (q_goto 155 dX11_perform_67 rfl) ?_
        rfl
      · rfl
    · rfl
theorem e_X11_perform_70 (v1 : Int32) (h : mx_H)  : mx_D (11, mm_X11_perform, 70, [.ref 47, .int v1, mx_junk], []) h = if v1 = 0 then mx_D (11, mm_X11_perform, 98, [.ref 47, .int v1, mx_junk], []) h else (if (lg_cmp (h.2.1 47 5) 128034677158753) = 0 then if (lg_cmp (h.2.1 47 6) 0) = 0 then mx_D (11, mm_X11_perform, 155, [.ref 47, .int v1, mx_junk], [.int 2]) h else (mx_D (11, mm_X11_perform, 98, [.ref 47, .int v1, mx_junk], []) h) else (mx_D (11, mm_X11_perform, 98, [.ref 47, .int v1, mx_junk], []) h)) := by
  refine Eq.trans (q_iload_n dX11_perform_70 rfl) ?_
  refine Eq.trans (q_if_eq 98 dX11_perform_71 rfl) (q_ite2 ?_ ?_)
  · rfl
  · refine Eq.trans (q_aload_n dX11_perform_74 rfl rfl) ?_
    refine Eq.trans (q_getf dX11_perform_75 mx_fld_11_105 (gf_47_5 _)) ?_
    refine Eq.trans (q_ldc2 dX11_perform_78 mx_ldc2_11_312) ?_
    refine Eq.trans (q_lcmp dX11_perform_81) ?_
    refine Eq.trans (q_if_ne 98 dX11_perform_82 rfl) (q_ite2 ?_ ?_)
    · refine Eq.trans (q_aload_n dX11_perform_85 rfl rfl) ?_
      refine Eq.trans (q_getf dX11_perform_86 mx_fld_11_109 (gf_47_6 _)) ?_
      refine Eq.trans (q_lconst (x := 0) dX11_perform_89 rfl) ?_
      refine Eq.trans (q_lcmp dX11_perform_90) ?_
      refine Eq.trans (q_if_ne 98 dX11_perform_91 rfl) (q_ite2 ?_ ?_)
      · refine Eq.trans (q_iconst (x := 2) dX11_perform_94 rfl) ?_
        refine Eq.trans (q_goto 155 dX11_perform_95 rfl) ?_
        rfl
      · rfl
    · rfl
theorem e_X11_perform_98 (v1 : Int32) (h : mx_H)  : mx_D (11, mm_X11_perform, 98, [.ref 47, .int v1, mx_junk], []) h = if v1 = 0 then mx_D (11, mm_X11_perform, 126, [.ref 47, .int v1, mx_junk], []) h else (if (lg_cmp (h.2.1 47 5) 1752397168) = 0 then if (lg_cmp (h.2.1 47 6) 0) = 0 then mx_D (11, mm_X11_perform, 155, [.ref 47, .int v1, mx_junk], [.int 3]) h else (mx_D (11, mm_X11_perform, 126, [.ref 47, .int v1, mx_junk], []) h) else (mx_D (11, mm_X11_perform, 126, [.ref 47, .int v1, mx_junk], []) h)) := by
  refine Eq.trans (q_iload_n dX11_perform_98 rfl) ?_
  refine Eq.trans (q_if_eq 126 dX11_perform_99 rfl) (q_ite2 ?_ ?_)
  · rfl
  · refine Eq.trans (q_aload_n dX11_perform_102 rfl rfl) ?_
    refine Eq.trans (q_getf dX11_perform_103 mx_fld_11_105 (gf_47_5 _)) ?_
    refine Eq.trans (q_ldc2 dX11_perform_106 mx_ldc2_11_195) ?_
    refine Eq.trans (q_lcmp dX11_perform_109) ?_
    refine Eq.trans (q_if_ne 126 dX11_perform_110 rfl) (q_ite2 ?_ ?_)
    · refine Eq.trans (q_aload_n dX11_perform_113 rfl rfl) ?_
      refine Eq.trans (q_getf dX11_perform_114 mx_fld_11_109 (gf_47_6 _)) ?_
      refine Eq.trans (q_lconst (x := 0) dX11_perform_117 rfl) ?_
      refine Eq.trans (q_lcmp dX11_perform_118) ?_
      refine Eq.trans (q_if_ne 126 dX11_perform_119 rfl) (q_ite2 ?_ ?_)
      · refine Eq.trans (q_iconst (x := 3) dX11_perform_122 rfl) ?_
        refine Eq.trans (q_goto 155 dX11_perform_123 rfl) ?_
        rfl
      · rfl
    · rfl
theorem e_X11_perform_126 (v1 : Int32) (h : mx_H)  : mx_D (11, mm_X11_perform, 126, [.ref 47, .int v1, mx_junk], []) h = if v1 = 0 then mx_D (11, mm_X11_perform, 154, [.ref 47, .int v1, mx_junk], []) h else (if (lg_cmp (h.2.1 47 5) 7368560) = 0 then if (lg_cmp (h.2.1 47 6) 0) = 0 then mx_D (11, mm_X11_perform, 155, [.ref 47, .int v1, mx_junk], [.int 4]) h else (mx_D (11, mm_X11_perform, 154, [.ref 47, .int v1, mx_junk], []) h) else (mx_D (11, mm_X11_perform, 154, [.ref 47, .int v1, mx_junk], []) h)) := by
  refine Eq.trans (q_iload_n dX11_perform_126 rfl) ?_
  refine Eq.trans (q_if_eq 154 dX11_perform_127 rfl) (q_ite2 ?_ ?_)
  · rfl
  · refine Eq.trans (q_aload_n dX11_perform_130 rfl rfl) ?_
    refine Eq.trans (q_getf dX11_perform_131 mx_fld_11_105 (gf_47_5 _)) ?_
    refine Eq.trans (q_ldc2 dX11_perform_134 mx_ldc2_11_197) ?_
    refine Eq.trans (q_lcmp dX11_perform_137) ?_
    refine Eq.trans (q_if_ne 154 dX11_perform_138 rfl) (q_ite2 ?_ ?_)
    · refine Eq.trans (q_aload_n dX11_perform_141 rfl rfl) ?_
      refine Eq.trans (q_getf dX11_perform_142 mx_fld_11_109 (gf_47_6 _)) ?_
      refine Eq.trans (q_lconst (x := 0) dX11_perform_145 rfl) ?_
      refine Eq.trans (q_lcmp dX11_perform_146) ?_
      refine Eq.trans (q_if_ne 154 dX11_perform_147 rfl) (q_ite2 ?_ ?_)
      · refine Eq.trans (q_iconst (x := 4) dX11_perform_150 rfl) ?_
        refine Eq.trans (q_goto 155 dX11_perform_151 rfl) ?_
        rfl
      · rfl
    · rfl
theorem e_X11_perform_154 (v1 : Int32) (h : mx_H)  : mx_D (11, mm_X11_perform, 154, [.ref 47, .int v1, mx_junk], []) h = mx_D (11, mm_X11_perform, 155, [.ref 47, .int v1, mx_junk], [.int 0]) h := by
  refine Eq.trans (q_iconst (x := 0) dX11_perform_154 rfl) ?_
  rfl
theorem e_X11_perform_155 (v1 : Int32) (s0 : Int32) (h : mx_H)  : mx_D (11, mm_X11_perform, 155, [.ref 47, .int v1, mx_junk], [.int s0]) h = if s0 ≤ 0 then mx_D (11, mm_X11_perform, 166, [.ref 47, .int v1, .int s0], [.int 0, .ref 47]) h else (mx_D (11, mm_X11_perform, 166, [.ref 47, .int v1, .int s0], [.int 1, .ref 47]) h) := by
  refine Eq.trans (q_istore_n (L' := [.ref 47, .int v1, .int s0]) dX11_perform_155 (Nat.le_of_ble_eq_true rfl) rfl) ?_
  refine Eq.trans (q_aload_n dX11_perform_156 rfl rfl) ?_
  refine Eq.trans (q_iload_n dX11_perform_157 rfl) ?_
  refine Eq.trans (q_if_le 165 dX11_perform_158 rfl) (q_ite2 ?_ ?_)
  · refine Eq.trans (q_iconst (x := 0) dX11_perform_165 rfl) ?_
    rfl
  · refine Eq.trans (q_iconst (x := 1) dX11_perform_161 rfl) ?_
    refine Eq.trans (q_goto 166 dX11_perform_162 rfl) ?_
    rfl
theorem e_X11_perform_166 (v1 : Int32) (v2 : Int32) (s1 : Int32) (h : mx_H)  : mx_D (11, mm_X11_perform, 166, [.ref 47, .int v1, .int v2], [.int s1, .ref 47]) h = (mx_C mm_X11_pass [.ref 47, .int s1] h).bind (fun o => mx_D (11, mm_X11_perform, 169, [.ref 47, .int v1, .int v2], o.1.toList ++ []) o.2) := by
  exact q_call0 (as := [.int s1]) (rest := []) dX11_perform_166 mx_inv_11_127 rfl rfl rfl ⟨Nat.le_of_ble_eq_true rfl, Nat.le_of_ble_eq_true rfl, (Nat.le_of_ble_eq_true rfl)⟩
theorem e_X11_perform_169 (v1 : Int32) (v2 : Int32) (s0 : Int32) (h : mx_H)  : mx_D (11, mm_X11_perform, 169, [.ref 47, .int v1, .int v2], [.int s0]) h = if s0 = 0 then some (some (.int ((-1))), h) else (if v2 = 1 then (mx_C mm_X11_declare [.ref 47] h).bind (fun o => mx_D (11, mm_X11_perform, 183, [.ref 47, .int v1, .int v2], o.1.toList ++ []) o.2) else (if v2 = 2 then (mx_C mm_X11_claim [.ref 47] h).bind (fun o => mx_D (11, mm_X11_perform, 195, [.ref 47, .int v1, .int v2], o.1.toList ++ []) o.2) else (if v2 = 3 then (mx_C mm_X11_open [.ref 47] h).bind (fun o => mx_D (11, mm_X11_perform, 207, [.ref 47, .int v1, .int v2], o.1.toList ++ []) o.2) else ((mx_C mm_X11_shut [.ref 47] h).bind (fun o => mx_D (11, mm_X11_perform, 214, [.ref 47, .int v1, .int v2], o.1.toList ++ []) o.2))))) := by
  refine Eq.trans (q_if_ne 174 dX11_perform_169 rfl) (q_ite2 ?_ ?_)
  · refine Eq.trans (q_iconst (x := (-1)) dX11_perform_172 rfl) ?_
    exact q_retI dX11_perform_173 rfl
  · refine Eq.trans (q_iload_n dX11_perform_174 rfl) ?_
    refine Eq.trans (q_iconst (x := 1) dX11_perform_175 rfl) ?_
    refine Eq.trans (q_icmp_ne 186 dX11_perform_176 rfl) (q_ite2 ?_ ?_)
    · refine Eq.trans (q_aload_n dX11_perform_179 rfl rfl) ?_
      exact q_call0 (as := []) (rest := []) dX11_perform_180 mx_inv_11_314 rfl rfl rfl ⟨Nat.le_of_ble_eq_true rfl, Nat.le_of_ble_eq_true rfl, (Nat.le_of_ble_eq_true rfl)⟩
    · refine Eq.trans (q_iload_n dX11_perform_186 rfl) ?_
      refine Eq.trans (q_iconst (x := 2) dX11_perform_187 rfl) ?_
      refine Eq.trans (q_icmp_ne 198 dX11_perform_188 rfl) (q_ite2 ?_ ?_)
      · refine Eq.trans (q_aload_n dX11_perform_191 rfl rfl) ?_
        exact q_call0 (as := []) (rest := []) dX11_perform_192 mx_inv_11_317 rfl rfl rfl ⟨Nat.le_of_ble_eq_true rfl, Nat.le_of_ble_eq_true rfl, (Nat.le_of_ble_eq_true rfl)⟩
      · refine Eq.trans (q_iload_n dX11_perform_198 rfl) ?_
        refine Eq.trans (q_iconst (x := 3) dX11_perform_199 rfl) ?_
        refine Eq.trans (q_icmp_ne 210 dX11_perform_200 rfl) (q_ite2 ?_ ?_)
        · refine Eq.trans (q_aload_n dX11_perform_203 rfl rfl) ?_
          exact q_call0 (as := []) (rest := []) dX11_perform_204 mx_inv_11_320 rfl rfl rfl ⟨Nat.le_of_ble_eq_true rfl, Nat.le_of_ble_eq_true rfl, (Nat.le_of_ble_eq_true rfl)⟩
        · refine Eq.trans (q_aload_n dX11_perform_210 rfl rfl) ?_
          exact q_call0 (as := []) (rest := []) dX11_perform_211 mx_inv_11_323 rfl rfl rfl ⟨Nat.le_of_ble_eq_true rfl, Nat.le_of_ble_eq_true rfl, (Nat.le_of_ble_eq_true rfl)⟩
theorem e_X11_perform_183 (v1 : Int32) (v2 : Int32) (s0 : Int32) (h : mx_H)  : mx_D (11, mm_X11_perform, 183, [.ref 47, .int v1, .int v2], [.int s0]) h = mx_D (11, mm_X11_perform, 214, [.ref 47, .int v1, .int v2], [.int s0]) h := by
  refine Eq.trans (q_goto 214 dX11_perform_183 rfl) ?_
  rfl
theorem e_X11_perform_195 (v1 : Int32) (v2 : Int32) (s0 : Int32) (h : mx_H)  : mx_D (11, mm_X11_perform, 195, [.ref 47, .int v1, .int v2], [.int s0]) h = mx_D (11, mm_X11_perform, 214, [.ref 47, .int v1, .int v2], [.int s0]) h := by
  refine Eq.trans (q_goto 214 dX11_perform_195 rfl) ?_
  rfl
theorem e_X11_perform_207 (v1 : Int32) (v2 : Int32) (s0 : Int32) (h : mx_H)  : mx_D (11, mm_X11_perform, 207, [.ref 47, .int v1, .int v2], [.int s0]) h = mx_D (11, mm_X11_perform, 214, [.ref 47, .int v1, .int v2], [.int s0]) h := by
  refine Eq.trans (q_goto 214 dX11_perform_207 rfl) ?_
  rfl
theorem e_X11_perform_214 (v1 : Int32) (v2 : Int32) (s0 : Int32) (h : mx_H)  : mx_D (11, mm_X11_perform, 214, [.ref 47, .int v1, .int v2], [.int s0]) h = some (some (.int s0), h) := by
  exact q_retI dX11_perform_214 rfl
theorem e_X11_command_0  (h : mx_H)  : mx_D (12, mm_X11_command, 0, [.ref 47, mx_junk], []) h = (mx_C mm_X11_perform [.ref 47] ((mx_u (mx_u (mx_u h.1 47 7 ((-1))) 47 4 0) 47 9 ((mx_u (mx_u h.1 47 7 ((-1))) 47 4 0) 47 8)), h.2.1, h.2.2)).bind (fun o => mx_D (12, mm_X11_command, 22, [.ref 47, mx_junk], o.1.toList ++ []) o.2) := by
  refine Eq.trans (q_aload_n dX11_command_0 rfl rfl) ?_
  refine Eq.trans (q_iconst (x := (-1)) dX11_command_1 rfl) ?_
  refine Eq.trans (q_putf dX11_command_2 mx_fld_11_118 (pf_47_7 _ _)) ?_
  refine Eq.trans (q_aload_n dX11_command_5 rfl rfl) ?_
  refine Eq.trans (q_iconst (x := 0) dX11_command_6 rfl) ?_
  refine Eq.trans (q_putf dX11_command_7 mx_fld_11_99 (pf_47_4 _ _)) ?_
  refine Eq.trans (q_aload_n dX11_command_10 rfl rfl) ?_
  refine Eq.trans (q_aload_n dX11_command_11 rfl rfl) ?_
  refine Eq.trans (q_getf dX11_command_12 mx_fld_11_326 (gf_47_8 _)) ?_
  refine Eq.trans (q_putf dX11_command_15 mx_fld_11_219 (pf_47_9 _ _)) ?_
  refine Eq.trans (q_aload_n dX11_command_18 rfl rfl) ?_
  exact q_call0 (as := []) (rest := []) dX11_command_19 mx_inv_11_329 rfl rfl rfl ⟨Nat.le_of_ble_eq_true rfl, Nat.le_of_ble_eq_true rfl, (Nat.le_of_ble_eq_true rfl)⟩
theorem c_X11_command  (h : mx_H) : mx_C mm_X11_command [.ref 47] h = mx_D (12, mm_X11_command, 0, [.ref 47, mx_junk], []) h := rfl
theorem e_X11_command_22 (s0 : Int32) (h : mx_H)  : mx_D (12, mm_X11_command, 22, [.ref 47, mx_junk], [.int s0]) h = if ((mx_u h.1 47 1 0) 47 7) < 0 then if 0 ≤ s0 then some (some (.int s0), ((mx_u (mx_u (mx_u h.1 47 1 0) 47 8 ((mx_u h.1 47 1 0) 47 9)) 47 38 0), h.2.1, h.2.2)) else (some (some (.int s0), ((mx_u h.1 47 1 0), h.2.1, h.2.2))) else (some (some (.int (((-1)) - ((mx_u h.1 47 1 0) 47 7))), ((mx_u h.1 47 1 0), h.2.1, h.2.2))) := by
  refine Eq.trans (q_istore_n (L' := [.ref 47, .int s0]) dX11_command_22 (Nat.le_of_ble_eq_true rfl) rfl) ?_
  refine Eq.trans (q_aload_n dX11_command_23 rfl rfl) ?_
  refine Eq.trans (q_iconst (x := 0) dX11_command_24 rfl) ?_
  refine Eq.trans (q_putf dX11_command_25 mx_fld_11_88 (pf_47_1 _ _)) ?_
  refine Eq.trans (q_aload_n dX11_command_28 rfl rfl) ?_
  refine Eq.trans (q_getf dX11_command_29 mx_fld_11_118 (gf_47_7 _)) ?_
  refine Eq.trans (q_if_lt 42 dX11_command_32 rfl) (q_ite2 ?_ ?_)
  · refine Eq.trans (q_iload_n dX11_command_42 rfl) ?_
    refine Eq.trans (q_if_ge 48 dX11_command_43 rfl) (q_ite2 ?_ ?_)
    · refine Eq.trans (q_aload_n dX11_command_48 rfl rfl) ?_
      refine Eq.trans (q_aload_n dX11_command_49 rfl rfl) ?_
      refine Eq.trans (q_getf dX11_command_50 mx_fld_11_219 (gf_47_9 _)) ?_
      refine Eq.trans (q_putf dX11_command_53 mx_fld_11_326 (pf_47_8 _ _)) ?_
      refine Eq.trans (q_aload_n dX11_command_56 rfl rfl) ?_
      refine Eq.trans (q_iconst (x := 0) dX11_command_57 rfl) ?_
      refine Eq.trans (q_putf dX11_command_58 mx_fld_11_332 (pf_47_38 _ _)) ?_
      refine Eq.trans (q_iload_n dX11_command_61 rfl) ?_
      exact q_retI dX11_command_62 rfl
    · refine Eq.trans (q_iload_n dX11_command_46 rfl) ?_
      exact q_retI dX11_command_47 rfl
  · refine Eq.trans (q_iconst (x := (-1)) dX11_command_35 rfl) ?_
    refine Eq.trans (q_aload_n dX11_command_36 rfl rfl) ?_
    refine Eq.trans (q_getf dX11_command_37 mx_fld_11_118 (gf_47_7 _)) ?_
    refine Eq.trans (q_isub dX11_command_40) ?_
    exact q_retI dX11_command_41 rfl
theorem e_X11_sign_0 (v0 : Int32) (v1 : Int32) (h : mx_H)  : mx_D (1, mm_X11_sign, 0, [.int v0, .int v1], []) h = if v0 < (1 <<< ((v1 - 1) &&& 31)) then mx_D (1, mm_X11_sign, 18, [.int v0, .int v1], [.int v0]) h else (mx_D (1, mm_X11_sign, 18, [.int v0, .int v1], [.int (v0 - (1 <<< (v1 &&& 31)))]) h) := by
  refine Eq.trans (q_iload_n dX11_sign_0 rfl) ?_
  refine Eq.trans (q_iconst (x := 1) dX11_sign_1 rfl) ?_
  refine Eq.trans (q_iload_n dX11_sign_2 rfl) ?_
  refine Eq.trans (q_iconst (x := 1) dX11_sign_3 rfl) ?_
  refine Eq.trans (q_isub dX11_sign_4) ?_
  refine Eq.trans (q_ishl dX11_sign_5) ?_
  refine Eq.trans (q_icmp_lt 17 dX11_sign_6 rfl) (q_ite2 ?_ ?_)
  · refine Eq.trans (q_iload_n dX11_sign_17 rfl) ?_
    rfl
  · refine Eq.trans (q_iload_n dX11_sign_9 rfl) ?_
    refine Eq.trans (q_iconst (x := 1) dX11_sign_10 rfl) ?_
    refine Eq.trans (q_iload_n dX11_sign_11 rfl) ?_
    refine Eq.trans (q_ishl dX11_sign_12) ?_
    refine Eq.trans (q_isub dX11_sign_13) ?_
    refine Eq.trans (q_goto 18 dX11_sign_14 rfl) ?_
    rfl
theorem c_X11_sign (v0 : Int32) (v1 : Int32) (h : mx_H) : mx_C mm_X11_sign [.int v0, .int v1] h = mx_D (1, mm_X11_sign, 0, [.int v0, .int v1], []) h := rfl
theorem e_X11_sign_18 (v0 : Int32) (v1 : Int32) (s0 : Int32) (h : mx_H)  : mx_D (1, mm_X11_sign, 18, [.int v0, .int v1], [.int s0]) h = some (some (.int s0), h) := by
  exact q_retI dX11_sign_18 rfl
theorem e_X11_onWords_0 (v0 : Int32) (v1 : Int32) (v2 : Int32) (v3 : Int32) (h : mx_H)  : mx_D (2, mm_X11_onWords, 0, [.int v0, .int v1, .int v2, .int v3, mx_junk], []) h = mx_D (2, mm_X11_onWords, 8, [.int v0, .int v1, .int v2, .int v3, .int ((1 <<< (v3 &&& 31)) - 1)], [.int v0]) h := by
  refine Eq.trans (q_iconst (x := 1) dX11_onWords_0 rfl) ?_
  refine Eq.trans (q_iload_n dX11_onWords_1 rfl) ?_
  refine Eq.trans (q_ishl dX11_onWords_2) ?_
  refine Eq.trans (q_iconst (x := 1) dX11_onWords_3 rfl) ?_
  refine Eq.trans (q_isub dX11_onWords_4) ?_
  refine Eq.trans (q_istore (L' := [.int v0, .int v1, .int v2, .int v3, .int ((1 <<< (v3 &&& 31)) - 1)]) dX11_onWords_5 (Nat.le_of_ble_eq_true rfl) rfl) ?_
  refine Eq.trans (q_iload_n dX11_onWords_7 rfl) ?_
  rfl
theorem c_X11_onWords (v0 : Int32) (v1 : Int32) (v2 : Int32) (v3 : Int32) (h : mx_H) : mx_C mm_X11_onWords [.int v0, .int v1, .int v2, .int v3] h = mx_D (2, mm_X11_onWords, 0, [.int v0, .int v1, .int v2, .int v3, mx_junk], []) h := rfl
theorem e_X11_onWords_8_14 (v0 : Int32) (v1 : Int32) (v2 : Int32) (v3 : Int32) (v4 : Int32) (h : mx_H) : mx_D (2, mm_X11_onWords, 8, [.int v0, .int v1, .int v2, .int v3, .int v4], [.int 14]) h = mx_D (2, mm_X11_onWords, 64, [.int v0, .int v1, .int v2, .int v3, .int v4], []) h := q_tsw 64 dX11_onWords_8 rfl rfl
theorem e_X11_onWords_8_15 (v0 : Int32) (v1 : Int32) (v2 : Int32) (v3 : Int32) (v4 : Int32) (h : mx_H) : mx_D (2, mm_X11_onWords, 8, [.int v0, .int v1, .int v2, .int v3, .int v4], [.int 15]) h = mx_D (2, mm_X11_onWords, 68, [.int v0, .int v1, .int v2, .int v3, .int v4], []) h := q_tsw 68 dX11_onWords_8 rfl rfl
theorem e_X11_onWords_8_16 (v0 : Int32) (v1 : Int32) (v2 : Int32) (v3 : Int32) (v4 : Int32) (h : mx_H) : mx_D (2, mm_X11_onWords, 8, [.int v0, .int v1, .int v2, .int v3, .int v4], [.int 16]) h = mx_D (2, mm_X11_onWords, 72, [.int v0, .int v1, .int v2, .int v3, .int v4], []) h := q_tsw 72 dX11_onWords_8 rfl rfl
theorem e_X11_onWords_8_17 (v0 : Int32) (v1 : Int32) (v2 : Int32) (v3 : Int32) (v4 : Int32) (h : mx_H) : mx_D (2, mm_X11_onWords, 8, [.int v0, .int v1, .int v2, .int v3, .int v4], [.int 17]) h = mx_D (2, mm_X11_onWords, 76, [.int v0, .int v1, .int v2, .int v3, .int v4], []) h := q_tsw 76 dX11_onWords_8 rfl rfl
theorem e_X11_onWords_8_18 (v0 : Int32) (v1 : Int32) (v2 : Int32) (v3 : Int32) (v4 : Int32) (h : mx_H) : mx_D (2, mm_X11_onWords, 8, [.int v0, .int v1, .int v2, .int v3, .int v4], [.int 18]) h = mx_D (2, mm_X11_onWords, 83, [.int v0, .int v1, .int v2, .int v3, .int v4], []) h := q_tsw 83 dX11_onWords_8 rfl rfl
theorem e_X11_onWords_8_19 (v0 : Int32) (v1 : Int32) (v2 : Int32) (v3 : Int32) (v4 : Int32) (h : mx_H) : mx_D (2, mm_X11_onWords, 8, [.int v0, .int v1, .int v2, .int v3, .int v4], [.int 19]) h = mx_D (2, mm_X11_onWords, 90, [.int v0, .int v1, .int v2, .int v3, .int v4], []) h := q_tsw 90 dX11_onWords_8 rfl rfl
theorem e_X11_onWords_8_20 (v0 : Int32) (v1 : Int32) (v2 : Int32) (v3 : Int32) (v4 : Int32) (h : mx_H) : mx_D (2, mm_X11_onWords, 8, [.int v0, .int v1, .int v2, .int v3, .int v4], [.int 20]) h = mx_D (2, mm_X11_onWords, 97, [.int v0, .int v1, .int v2, .int v3, .int v4], []) h := q_tsw 97 dX11_onWords_8 rfl rfl
theorem e_X11_onWords_8_21 (v0 : Int32) (v1 : Int32) (v2 : Int32) (v3 : Int32) (v4 : Int32) (h : mx_H) : mx_D (2, mm_X11_onWords, 8, [.int v0, .int v1, .int v2, .int v3, .int v4], [.int 21]) h = mx_D (2, mm_X11_onWords, 110, [.int v0, .int v1, .int v2, .int v3, .int v4], []) h := q_tsw 110 dX11_onWords_8 rfl rfl
theorem e_X11_onWords_8_22 (v0 : Int32) (v1 : Int32) (v2 : Int32) (v3 : Int32) (v4 : Int32) (h : mx_H) : mx_D (2, mm_X11_onWords, 8, [.int v0, .int v1, .int v2, .int v3, .int v4], [.int 22]) h = mx_D (2, mm_X11_onWords, 122, [.int v0, .int v1, .int v2, .int v3, .int v4], []) h := q_tsw 122 dX11_onWords_8 rfl rfl
theorem e_X11_onWords_8_23 (v0 : Int32) (v1 : Int32) (v2 : Int32) (v3 : Int32) (v4 : Int32) (h : mx_H) : mx_D (2, mm_X11_onWords, 8, [.int v0, .int v1, .int v2, .int v3, .int v4], [.int 23]) h = mx_D (2, mm_X11_onWords, 129, [.int v0, .int v1, .int v2, .int v3, .int v4], []) h := q_tsw 129 dX11_onWords_8 rfl rfl
theorem e_X11_onWords_8_d (v0 : Int32) (v1 : Int32) (v2 : Int32) (v3 : Int32) (v4 : Int32) (x : Int32) (hx : x.toInt < 14 ∨ 23 < x.toInt) (h : mx_H) : mx_D (2, mm_X11_onWords, 8, [.int v0, .int v1, .int v2, .int v3, .int v4], [.int x]) h = mx_D (2, mm_X11_onWords, 133, [.int v0, .int v1, .int v2, .int v3, .int v4], []) h := q_tsw 133 dX11_onWords_8 (if_pos hx) rfl
theorem e_X11_onWords_64 (v0 : Int32) (v1 : Int32) (v2 : Int32) (v3 : Int32) (v4 : Int32) (h : mx_H)  : mx_D (2, mm_X11_onWords, 64, [.int v0, .int v1, .int v2, .int v3, .int v4], []) h = some (some (.int (v1 &&& v2)), h) := by
  refine Eq.trans (q_iload_n dX11_onWords_64 rfl) ?_
  refine Eq.trans (q_iload_n dX11_onWords_65 rfl) ?_
  refine Eq.trans (q_iand dX11_onWords_66) ?_
  exact q_retI dX11_onWords_67 rfl
theorem e_X11_onWords_68 (v0 : Int32) (v1 : Int32) (v2 : Int32) (v3 : Int32) (v4 : Int32) (h : mx_H)  : mx_D (2, mm_X11_onWords, 68, [.int v0, .int v1, .int v2, .int v3, .int v4], []) h = some (some (.int (v1 ||| v2)), h) := by
  refine Eq.trans (q_iload_n dX11_onWords_68 rfl) ?_
  refine Eq.trans (q_iload_n dX11_onWords_69 rfl) ?_
  refine Eq.trans (q_ior dX11_onWords_70) ?_
  exact q_retI dX11_onWords_71 rfl
theorem e_X11_onWords_72 (v0 : Int32) (v1 : Int32) (v2 : Int32) (v3 : Int32) (v4 : Int32) (h : mx_H)  : mx_D (2, mm_X11_onWords, 72, [.int v0, .int v1, .int v2, .int v3, .int v4], []) h = some (some (.int (v1 ^^^ v2)), h) := by
  refine Eq.trans (q_iload_n dX11_onWords_72 rfl) ?_
  refine Eq.trans (q_iload_n dX11_onWords_73 rfl) ?_
  refine Eq.trans (q_ixor dX11_onWords_74) ?_
  exact q_retI dX11_onWords_75 rfl
theorem e_X11_onWords_76 (v0 : Int32) (v1 : Int32) (v2 : Int32) (v3 : Int32) (v4 : Int32) (h : mx_H)  : mx_D (2, mm_X11_onWords, 76, [.int v0, .int v1, .int v2, .int v3, .int v4], []) h = some (some (.int ((v1 + v2) &&& v4)), h) := by
  refine Eq.trans (q_iload_n dX11_onWords_76 rfl) ?_
  refine Eq.trans (q_iload_n dX11_onWords_77 rfl) ?_
  refine Eq.trans (q_iadd dX11_onWords_78) ?_
  refine Eq.trans (q_iload dX11_onWords_79 rfl) ?_
  refine Eq.trans (q_iand dX11_onWords_81) ?_
  exact q_retI dX11_onWords_82 rfl
theorem e_X11_onWords_83 (v0 : Int32) (v1 : Int32) (v2 : Int32) (v3 : Int32) (v4 : Int32) (h : mx_H)  : mx_D (2, mm_X11_onWords, 83, [.int v0, .int v1, .int v2, .int v3, .int v4], []) h = some (some (.int ((v1 - v2) &&& v4)), h) := by
  refine Eq.trans (q_iload_n dX11_onWords_83 rfl) ?_
  refine Eq.trans (q_iload_n dX11_onWords_84 rfl) ?_
  refine Eq.trans (q_isub dX11_onWords_85) ?_
  refine Eq.trans (q_iload dX11_onWords_86 rfl) ?_
  refine Eq.trans (q_iand dX11_onWords_88) ?_
  exact q_retI dX11_onWords_89 rfl
theorem e_X11_onWords_90 (v0 : Int32) (v1 : Int32) (v2 : Int32) (v3 : Int32) (v4 : Int32) (h : mx_H)  : mx_D (2, mm_X11_onWords, 90, [.int v0, .int v1, .int v2, .int v3, .int v4], []) h = some (some (.int ((v1 * v2) &&& v4)), h) := by
  refine Eq.trans (q_iload_n dX11_onWords_90 rfl) ?_
  refine Eq.trans (q_iload_n dX11_onWords_91 rfl) ?_
  refine Eq.trans (q_imul dX11_onWords_92) ?_
  refine Eq.trans (q_iload dX11_onWords_93 rfl) ?_
  refine Eq.trans (q_iand dX11_onWords_95) ?_
  exact q_retI dX11_onWords_96 rfl
theorem e_X11_onWords_97 (v0 : Int32) (v1 : Int32) (v2 : Int32) (v3 : Int32) (v4 : Int32) (h : mx_H)  : mx_D (2, mm_X11_onWords, 97, [.int v0, .int v1, .int v2, .int v3, .int v4], []) h = if v2 = 0 then mx_D (2, mm_X11_onWords, 109, [.int v0, .int v1, .int v2, .int v3, .int v4], [.int v4]) h else (if v2 = 0 then none else mx_D (2, mm_X11_onWords, 109, [.int v0, .int v1, .int v2, .int v3, .int v4], [.int (v1 / v2)]) h) := by
  refine Eq.trans (q_iload_n dX11_onWords_97 rfl) ?_
  refine Eq.trans (q_if_ne 106 dX11_onWords_98 rfl) (q_ite2 ?_ ?_)
  · refine Eq.trans (q_iload dX11_onWords_101 rfl) ?_
    refine Eq.trans (q_goto 109 dX11_onWords_103 rfl) ?_
    rfl
  · refine Eq.trans (q_iload_n dX11_onWords_106 rfl) ?_
    refine Eq.trans (q_iload_n dX11_onWords_107 rfl) ?_
    refine Eq.trans (q_idiv dX11_onWords_108) (q_ite2 rfl ?_)
    rfl
theorem e_X11_onWords_109 (v0 : Int32) (v1 : Int32) (v2 : Int32) (v3 : Int32) (v4 : Int32) (s0 : Int32) (h : mx_H)  : mx_D (2, mm_X11_onWords, 109, [.int v0, .int v1, .int v2, .int v3, .int v4], [.int s0]) h = some (some (.int s0), h) := by
  exact q_retI dX11_onWords_109 rfl
theorem e_X11_onWords_110 (v0 : Int32) (v1 : Int32) (v2 : Int32) (v3 : Int32) (v4 : Int32) (h : mx_H)  : mx_D (2, mm_X11_onWords, 110, [.int v0, .int v1, .int v2, .int v3, .int v4], []) h = if v2 = 0 then mx_D (2, mm_X11_onWords, 121, [.int v0, .int v1, .int v2, .int v3, .int v4], [.int v1]) h else (if v2 = 0 then none else mx_D (2, mm_X11_onWords, 121, [.int v0, .int v1, .int v2, .int v3, .int v4], [.int (v1 - v1 / v2 * v2)]) h) := by
  refine Eq.trans (q_iload_n dX11_onWords_110 rfl) ?_
  refine Eq.trans (q_if_ne 118 dX11_onWords_111 rfl) (q_ite2 ?_ ?_)
  · refine Eq.trans (q_iload_n dX11_onWords_114 rfl) ?_
    refine Eq.trans (q_goto 121 dX11_onWords_115 rfl) ?_
    rfl
  · refine Eq.trans (q_iload_n dX11_onWords_118 rfl) ?_
    refine Eq.trans (q_iload_n dX11_onWords_119 rfl) ?_
    refine Eq.trans (q_irem dX11_onWords_120) (q_ite2 rfl ?_)
    rfl
theorem e_X11_onWords_121 (v0 : Int32) (v1 : Int32) (v2 : Int32) (v3 : Int32) (v4 : Int32) (s0 : Int32) (h : mx_H)  : mx_D (2, mm_X11_onWords, 121, [.int v0, .int v1, .int v2, .int v3, .int v4], [.int s0]) h = some (some (.int s0), h) := by
  exact q_retI dX11_onWords_121 rfl
theorem e_X11_onWords_122 (v0 : Int32) (v1 : Int32) (v2 : Int32) (v3 : Int32) (v4 : Int32) (h : mx_H)  : mx_D (2, mm_X11_onWords, 122, [.int v0, .int v1, .int v2, .int v3, .int v4], []) h = some (some (.int ((v1 <<< (v2 &&& 31)) &&& v4)), h) := by
  refine Eq.trans (q_iload_n dX11_onWords_122 rfl) ?_
  refine Eq.trans (q_iload_n dX11_onWords_123 rfl) ?_
  refine Eq.trans (q_ishl dX11_onWords_124) ?_
  refine Eq.trans (q_iload dX11_onWords_125 rfl) ?_
  refine Eq.trans (q_iand dX11_onWords_127) ?_
  exact q_retI dX11_onWords_128 rfl
theorem e_X11_onWords_129 (v0 : Int32) (v1 : Int32) (v2 : Int32) (v3 : Int32) (v4 : Int32) (h : mx_H)  : mx_D (2, mm_X11_onWords, 129, [.int v0, .int v1, .int v2, .int v3, .int v4], []) h = some (some (.int (v1 >>> (v2 &&& 31))), h) := by
  refine Eq.trans (q_iload_n dX11_onWords_129 rfl) ?_
  refine Eq.trans (q_iload_n dX11_onWords_130 rfl) ?_
  refine Eq.trans (q_ishr dX11_onWords_131) ?_
  exact q_retI dX11_onWords_132 rfl
theorem e_X11_onWords_133 (v0 : Int32) (v1 : Int32) (v2 : Int32) (v3 : Int32) (v4 : Int32) (h : mx_H)  : mx_D (2, mm_X11_onWords, 133, [.int v0, .int v1, .int v2, .int v3, .int v4], []) h = (mx_C mm_X11_sign [.int v1, .int v3] h).bind (fun o => mx_D (2, mm_X11_onWords, 138, [.int v0, .int v1, .int v2, .int v3, .int v4], o.1.toList ++ []) o.2) := by
  refine Eq.trans (q_iload_n dX11_onWords_133 rfl) ?_
  refine Eq.trans (q_iload_n dX11_onWords_134 rfl) ?_
  exact q_call1 (as := [.int v1, .int v3]) (rest := []) dX11_onWords_135 mx_inv_11_335 rfl rfl ⟨Nat.le_of_ble_eq_true rfl, Nat.le_of_ble_eq_true rfl, (Nat.le_of_ble_eq_true rfl)⟩
theorem e_X11_onWords_138 (v0 : Int32) (v1 : Int32) (v2 : Int32) (v3 : Int32) (v4 : Int32) (s0 : Int32) (h : mx_H)  : mx_D (2, mm_X11_onWords, 138, [.int v0, .int v1, .int v2, .int v3, .int v4], [.int s0]) h = some (some (.int ((s0 >>> (v2 &&& 31)) &&& v4)), h) := by
  refine Eq.trans (q_iload_n dX11_onWords_138 rfl) ?_
  refine Eq.trans (q_ishr dX11_onWords_139) ?_
  refine Eq.trans (q_iload dX11_onWords_140 rfl) ?_
  refine Eq.trans (q_iand dX11_onWords_142) ?_
  exact q_retI dX11_onWords_143 rfl
theorem e_X11_isTrue_0 (v0 : Int32) (v1 : Int32) (v2 : Int32) (v3 : Int32) (h : mx_H)  : mx_D (2, mm_X11_isTrue, 0, [.int v0, .int v1, .int v2, .int v3], []) h = mx_D (2, mm_X11_isTrue, 1, [.int v0, .int v1, .int v2, .int v3], [.int v0]) h := by
  refine Eq.trans (q_iload_n dX11_isTrue_0 rfl) ?_
  rfl
theorem c_X11_isTrue (v0 : Int32) (v1 : Int32) (v2 : Int32) (v3 : Int32) (h : mx_H) : mx_C mm_X11_isTrue [.int v0, .int v1, .int v2, .int v3] h = mx_D (2, mm_X11_isTrue, 0, [.int v0, .int v1, .int v2, .int v3], []) h := rfl
theorem e_X11_isTrue_1_4 (v0 : Int32) (v1 : Int32) (v2 : Int32) (v3 : Int32) (h : mx_H) : mx_D (2, mm_X11_isTrue, 1, [.int v0, .int v1, .int v2, .int v3], [.int 4]) h = mx_D (2, mm_X11_isTrue, 112, [.int v0, .int v1, .int v2, .int v3], []) h := q_tsw 112 dX11_isTrue_1 rfl rfl
theorem e_X11_isTrue_1_5 (v0 : Int32) (v1 : Int32) (v2 : Int32) (v3 : Int32) (h : mx_H) : mx_D (2, mm_X11_isTrue, 1, [.int v0, .int v1, .int v2, .int v3], [.int 5]) h = mx_D (2, mm_X11_isTrue, 122, [.int v0, .int v1, .int v2, .int v3], []) h := q_tsw 122 dX11_isTrue_1 rfl rfl
theorem e_X11_isTrue_1_6 (v0 : Int32) (v1 : Int32) (v2 : Int32) (v3 : Int32) (h : mx_H) : mx_D (2, mm_X11_isTrue, 1, [.int v0, .int v1, .int v2, .int v3], [.int 6]) h = mx_D (2, mm_X11_isTrue, 138, [.int v0, .int v1, .int v2, .int v3], []) h := q_tsw 138 dX11_isTrue_1 rfl rfl
theorem e_X11_isTrue_1_7 (v0 : Int32) (v1 : Int32) (v2 : Int32) (v3 : Int32) (h : mx_H) : mx_D (2, mm_X11_isTrue, 1, [.int v0, .int v1, .int v2, .int v3], [.int 7]) h = mx_D (2, mm_X11_isTrue, 154, [.int v0, .int v1, .int v2, .int v3], []) h := q_tsw 154 dX11_isTrue_1 rfl rfl
theorem e_X11_isTrue_1_8 (v0 : Int32) (v1 : Int32) (v2 : Int32) (v3 : Int32) (h : mx_H) : mx_D (2, mm_X11_isTrue, 1, [.int v0, .int v1, .int v2, .int v3], [.int 8]) h = mx_D (2, mm_X11_isTrue, 165, [.int v0, .int v1, .int v2, .int v3], []) h := q_tsw 165 dX11_isTrue_1 rfl rfl
theorem e_X11_isTrue_1_9 (v0 : Int32) (v1 : Int32) (v2 : Int32) (v3 : Int32) (h : mx_H) : mx_D (2, mm_X11_isTrue, 1, [.int v0, .int v1, .int v2, .int v3], [.int 9]) h = mx_D (2, mm_X11_isTrue, 180, [.int v0, .int v1, .int v2, .int v3], []) h := q_tsw 180 dX11_isTrue_1 rfl rfl
theorem e_X11_isTrue_1_10 (v0 : Int32) (v1 : Int32) (v2 : Int32) (v3 : Int32) (h : mx_H) : mx_D (2, mm_X11_isTrue, 1, [.int v0, .int v1, .int v2, .int v3], [.int 10]) h = mx_D (2, mm_X11_isTrue, 191, [.int v0, .int v1, .int v2, .int v3], []) h := q_tsw 191 dX11_isTrue_1 rfl rfl
theorem e_X11_isTrue_1_11 (v0 : Int32) (v1 : Int32) (v2 : Int32) (v3 : Int32) (h : mx_H) : mx_D (2, mm_X11_isTrue, 1, [.int v0, .int v1, .int v2, .int v3], [.int 11]) h = mx_D (2, mm_X11_isTrue, 243, [.int v0, .int v1, .int v2, .int v3], []) h := q_tsw 243 dX11_isTrue_1 rfl rfl
theorem e_X11_isTrue_1_12 (v0 : Int32) (v1 : Int32) (v2 : Int32) (v3 : Int32) (h : mx_H) : mx_D (2, mm_X11_isTrue, 1, [.int v0, .int v1, .int v2, .int v3], [.int 12]) h = mx_D (2, mm_X11_isTrue, 243, [.int v0, .int v1, .int v2, .int v3], []) h := q_tsw 243 dX11_isTrue_1 rfl rfl
theorem e_X11_isTrue_1_13 (v0 : Int32) (v1 : Int32) (v2 : Int32) (v3 : Int32) (h : mx_H) : mx_D (2, mm_X11_isTrue, 1, [.int v0, .int v1, .int v2, .int v3], [.int 13]) h = mx_D (2, mm_X11_isTrue, 243, [.int v0, .int v1, .int v2, .int v3], []) h := q_tsw 243 dX11_isTrue_1 rfl rfl
theorem e_X11_isTrue_1_14 (v0 : Int32) (v1 : Int32) (v2 : Int32) (v3 : Int32) (h : mx_H) : mx_D (2, mm_X11_isTrue, 1, [.int v0, .int v1, .int v2, .int v3], [.int 14]) h = mx_D (2, mm_X11_isTrue, 243, [.int v0, .int v1, .int v2, .int v3], []) h := q_tsw 243 dX11_isTrue_1 rfl rfl
theorem e_X11_isTrue_1_15 (v0 : Int32) (v1 : Int32) (v2 : Int32) (v3 : Int32) (h : mx_H) : mx_D (2, mm_X11_isTrue, 1, [.int v0, .int v1, .int v2, .int v3], [.int 15]) h = mx_D (2, mm_X11_isTrue, 243, [.int v0, .int v1, .int v2, .int v3], []) h := q_tsw 243 dX11_isTrue_1 rfl rfl
theorem e_X11_isTrue_1_16 (v0 : Int32) (v1 : Int32) (v2 : Int32) (v3 : Int32) (h : mx_H) : mx_D (2, mm_X11_isTrue, 1, [.int v0, .int v1, .int v2, .int v3], [.int 16]) h = mx_D (2, mm_X11_isTrue, 243, [.int v0, .int v1, .int v2, .int v3], []) h := q_tsw 243 dX11_isTrue_1 rfl rfl
theorem e_X11_isTrue_1_17 (v0 : Int32) (v1 : Int32) (v2 : Int32) (v3 : Int32) (h : mx_H) : mx_D (2, mm_X11_isTrue, 1, [.int v0, .int v1, .int v2, .int v3], [.int 17]) h = mx_D (2, mm_X11_isTrue, 243, [.int v0, .int v1, .int v2, .int v3], []) h := q_tsw 243 dX11_isTrue_1 rfl rfl
theorem e_X11_isTrue_1_18 (v0 : Int32) (v1 : Int32) (v2 : Int32) (v3 : Int32) (h : mx_H) : mx_D (2, mm_X11_isTrue, 1, [.int v0, .int v1, .int v2, .int v3], [.int 18]) h = mx_D (2, mm_X11_isTrue, 243, [.int v0, .int v1, .int v2, .int v3], []) h := q_tsw 243 dX11_isTrue_1 rfl rfl
theorem e_X11_isTrue_1_19 (v0 : Int32) (v1 : Int32) (v2 : Int32) (v3 : Int32) (h : mx_H) : mx_D (2, mm_X11_isTrue, 1, [.int v0, .int v1, .int v2, .int v3], [.int 19]) h = mx_D (2, mm_X11_isTrue, 243, [.int v0, .int v1, .int v2, .int v3], []) h := q_tsw 243 dX11_isTrue_1 rfl rfl
theorem e_X11_isTrue_1_20 (v0 : Int32) (v1 : Int32) (v2 : Int32) (v3 : Int32) (h : mx_H) : mx_D (2, mm_X11_isTrue, 1, [.int v0, .int v1, .int v2, .int v3], [.int 20]) h = mx_D (2, mm_X11_isTrue, 243, [.int v0, .int v1, .int v2, .int v3], []) h := q_tsw 243 dX11_isTrue_1 rfl rfl
theorem e_X11_isTrue_1_21 (v0 : Int32) (v1 : Int32) (v2 : Int32) (v3 : Int32) (h : mx_H) : mx_D (2, mm_X11_isTrue, 1, [.int v0, .int v1, .int v2, .int v3], [.int 21]) h = mx_D (2, mm_X11_isTrue, 243, [.int v0, .int v1, .int v2, .int v3], []) h := q_tsw 243 dX11_isTrue_1 rfl rfl
theorem e_X11_isTrue_1_22 (v0 : Int32) (v1 : Int32) (v2 : Int32) (v3 : Int32) (h : mx_H) : mx_D (2, mm_X11_isTrue, 1, [.int v0, .int v1, .int v2, .int v3], [.int 22]) h = mx_D (2, mm_X11_isTrue, 243, [.int v0, .int v1, .int v2, .int v3], []) h := q_tsw 243 dX11_isTrue_1 rfl rfl
