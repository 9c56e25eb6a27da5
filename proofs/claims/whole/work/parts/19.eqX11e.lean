theorem e_X11_deliver_118 (v1 : Int32) (v2 : Int32) (v3 : Int32) (v4 : Int32) (v5 : Int32) (h : mx_H)  : mx_D (6, mm_X11_deliver, 118, [.ref 47, .int v1, .int v2, .int v3, .int v4, .int v5, mx_junk], []) h = if mx_in v5 12 = true then if (h.1 56 v5.toNatClampNeg) = 35 then mx_D (6, mm_X11_deliver, 216, [.ref 47, .int v1, .int v2, .int v3, .int v4, .int v5, mx_junk], []) h else (if mx_in v5 12 = true then if mx_in v3 130 = true then (mx_C mm_X11_fits [.ref 47, .int v5, .int (h.1 58 v5.toNatClampNeg), .int (h.1 50 v3.toNatClampNeg)] h).bind (fun o => mx_D (6, mm_X11_deliver, 149, [.ref 47, .int v1, .int v2, .int v3, .int v4, .int v5, mx_junk], o.1.toList ++ []) o.2) else none else none) else none := by
  refine Eq.trans (q_aload_n dX11_deliver_118 rfl rfl) ?_
  refine Eq.trans (q_getf dX11_deliver_119 mx_fld_11_34 (gf_47_19 _)) ?_
  refine Eq.trans (q_iload dX11_deliver_122 rfl) ?_
  refine Eq.trans (q_ld (w := 0) (by decide) dX11_deliver_124 (al_56 _ _)) (q_ite ?_)
  refine Eq.trans (q_bipush (x := 35) dX11_deliver_125 rfl) ?_
  refine Eq.trans (q_icmp_eq 216 dX11_deliver_127 rfl) (q_ite2 ?_ ?_)
  · rfl
  · refine Eq.trans (q_aload_n dX11_deliver_130 rfl rfl) ?_
    refine Eq.trans (q_iload dX11_deliver_131 rfl) ?_
    refine Eq.trans (q_aload_n dX11_deliver_133 rfl rfl) ?_
    refine Eq.trans (q_getf dX11_deliver_134 mx_fld_11_40 (gf_47_21 _)) ?_
    refine Eq.trans (q_iload dX11_deliver_137 rfl) ?_
    refine Eq.trans (q_ld (w := 0) (by decide) dX11_deliver_139 (al_58 _ _)) (q_ite ?_)
    refine Eq.trans (q_aload_n dX11_deliver_140 rfl rfl) ?_
    refine Eq.trans (q_getf dX11_deliver_141 mx_fld_11_16 (gf_47_11 _)) ?_
    refine Eq.trans (q_iload_n dX11_deliver_144 rfl) ?_
    refine Eq.trans (q_ld (w := 0) (by decide) dX11_deliver_145 (al_50 _ _)) (q_ite ?_)
    exact q_call0 (as := [.int v5, .int (h.1 58 v5.toNatClampNeg), .int (h.1 50 v3.toNatClampNeg)]) (rest := []) dX11_deliver_146 mx_inv_11_256 rfl rfl rfl ⟨Nat.le_of_ble_eq_true rfl, Nat.le_of_ble_eq_true rfl, (Nat.le_of_ble_eq_true rfl)⟩
theorem e_X11_deliver_149 (v1 : Int32) (v2 : Int32) (v3 : Int32) (v4 : Int32) (v5 : Int32) (s0 : Int32) (h : mx_H)  : mx_D (6, mm_X11_deliver, 149, [.ref 47, .int v1, .int v2, .int v3, .int v4, .int v5, mx_junk], [.int s0]) h = if s0 = 0 then some (some (.int ((-1))), ((mx_u h.1 47 7 v4), h.2.1, h.2.2)) else (if mx_in v5 12 = true then if mx_in ((3 * v5) + (h.1 58 v5.toNatClampNeg)) 36 = true then if mx_in v5 12 = true then if mx_in v5 12 = true then if mx_in v5 12 = true then if mx_in v5 12 = true then (mx_C mm_X11_parts [.int ((mx_u (mx_u h.1 59 (((3 * v5) + (h.1 58 v5.toNatClampNeg)).toNatClampNeg) v3) 58 v5.toNatClampNeg (((mx_u h.1 59 (((3 * v5) + (h.1 58 v5.toNatClampNeg)).toNatClampNeg) v3) 58 v5.toNatClampNeg) + 1)) 56 v5.toNatClampNeg)] ((mx_u (mx_u h.1 59 (((3 * v5) + (h.1 58 v5.toNatClampNeg)).toNatClampNeg) v3) 58 v5.toNatClampNeg (((mx_u h.1 59 (((3 * v5) + (h.1 58 v5.toNatClampNeg)).toNatClampNeg) v3) 58 v5.toNatClampNeg) + 1)), h.2.1, h.2.2)).bind (fun o => mx_D (6, mm_X11_deliver, 211, [.ref 47, .int v1, .int v2, .int v3, .int v4, .int v5, mx_junk], o.1.toList ++ [.int ((mx_u (mx_u h.1 59 (((3 * v5) + (h.1 58 v5.toNatClampNeg)).toNatClampNeg) v3) 58 v5.toNatClampNeg (((mx_u h.1 59 (((3 * v5) + (h.1 58 v5.toNatClampNeg)).toNatClampNeg) v3) 58 v5.toNatClampNeg) + 1)) 58 v5.toNatClampNeg)]) o.2) else none else none else none else none else none else none) := by
  refine Eq.trans (q_if_ne 160 dX11_deliver_149 rfl) (q_ite2 ?_ ?_)
  · refine Eq.trans (q_aload_n dX11_deliver_152 rfl rfl) ?_
    refine Eq.trans (q_iload dX11_deliver_153 rfl) ?_
    refine Eq.trans (q_putf dX11_deliver_155 mx_fld_11_118 (pf_47_7 _ _)) ?_
    refine Eq.trans (q_iconst (x := (-1)) dX11_deliver_158 rfl) ?_
    exact q_retI dX11_deliver_159 rfl
  · refine Eq.trans (q_aload_n dX11_deliver_160 rfl rfl) ?_
    refine Eq.trans (q_getf dX11_deliver_161 mx_fld_11_43 (gf_47_22 _)) ?_
    refine Eq.trans (q_iconst (x := 3) dX11_deliver_164 rfl) ?_
    refine Eq.trans (q_iload dX11_deliver_165 rfl) ?_
    refine Eq.trans (q_imul dX11_deliver_167) ?_
    refine Eq.trans (q_aload_n dX11_deliver_168 rfl rfl) ?_
    refine Eq.trans (q_getf dX11_deliver_169 mx_fld_11_40 (gf_47_21 _)) ?_
    refine Eq.trans (q_iload dX11_deliver_172 rfl) ?_
    refine Eq.trans (q_ld (w := 0) (by decide) dX11_deliver_174 (al_58 _ _)) (q_ite ?_)
    refine Eq.trans (q_iadd dX11_deliver_175) ?_
    refine Eq.trans (q_iload_n dX11_deliver_176 rfl) ?_
    refine Eq.trans (q_st (w := 0) (by decide) dX11_deliver_177 (as_59 _ _ _)) (q_ite ?_)
    refine Eq.trans (q_aload_n dX11_deliver_178 rfl rfl) ?_
    refine Eq.trans (q_getf dX11_deliver_179 mx_fld_11_40 (gf_47_21 _)) ?_
    refine Eq.trans (q_iload dX11_deliver_182 rfl) ?_
    refine Eq.trans (q_aload_n dX11_deliver_184 rfl rfl) ?_
    refine Eq.trans (q_getf dX11_deliver_185 mx_fld_11_40 (gf_47_21 _)) ?_
    refine Eq.trans (q_iload dX11_deliver_188 rfl) ?_
    refine Eq.trans (q_ld (w := 0) (by decide) dX11_deliver_190 (al_58 _ _)) (q_ite ?_)
    refine Eq.trans (q_iconst (x := 1) dX11_deliver_191 rfl) ?_
    refine Eq.trans (q_iadd dX11_deliver_192) ?_
    refine Eq.trans (q_st (w := 0) (by decide) dX11_deliver_193 (as_58 _ _ _)) (q_ite ?_)
    refine Eq.trans (q_aload_n dX11_deliver_194 rfl rfl) ?_
    refine Eq.trans (q_getf dX11_deliver_195 mx_fld_11_40 (gf_47_21 _)) ?_
    refine Eq.trans (q_iload dX11_deliver_198 rfl) ?_
    refine Eq.trans (q_ld (w := 0) (by decide) dX11_deliver_200 (al_58 _ _)) (q_ite ?_)
    refine Eq.trans (q_aload_n dX11_deliver_201 rfl rfl) ?_
    refine Eq.trans (q_getf dX11_deliver_202 mx_fld_11_34 (gf_47_19 _)) ?_
    refine Eq.trans (q_iload dX11_deliver_205 rfl) ?_
    refine Eq.trans (q_ld (w := 0) (by decide) dX11_deliver_207 (al_56 _ _)) (q_ite ?_)
    exact q_call1 (as := [.int ((mx_u (mx_u h.1 59 (((3 * v5) + (h.1 58 v5.toNatClampNeg)).toNatClampNeg) v3) 58 v5.toNatClampNeg (((mx_u h.1 59 (((3 * v5) + (h.1 58 v5.toNatClampNeg)).toNatClampNeg) v3) 58 v5.toNatClampNeg) + 1)) 56 v5.toNatClampNeg)]) (rest := [.int ((mx_u (mx_u h.1 59 (((3 * v5) + (h.1 58 v5.toNatClampNeg)).toNatClampNeg) v3) 58 v5.toNatClampNeg (((mx_u h.1 59 (((3 * v5) + (h.1 58 v5.toNatClampNeg)).toNatClampNeg) v3) 58 v5.toNatClampNeg) + 1)) 58 v5.toNatClampNeg)]) dX11_deliver_208 mx_inv_11_253 rfl rfl ⟨Nat.le_of_ble_eq_true rfl, Nat.le_of_ble_eq_true rfl, (Nat.le_of_ble_eq_true rfl)⟩
theorem e_X11_deliver_211 (v1 : Int32) (v2 : Int32) (v3 : Int32) (v4 : Int32) (v5 : Int32) (s0 : Int32) (s1 : Int32) (h : mx_H)  : mx_D (6, mm_X11_deliver, 211, [.ref 47, .int v1, .int v2, .int v3, .int v4, .int v5, mx_junk], [.int s1, .int s0]) h = if s1 ≤ s0 then mx_D (6, mm_X11_deliver, 216, [.ref 47, .int v1, .int v2, .int v3, .int v4, .int v5, mx_junk], []) h else (some (some (.int 0), h)) := by
  refine Eq.trans (q_icmp_ge 216 dX11_deliver_211 rfl) (q_ite2 ?_ ?_)
  · rfl
  · refine Eq.trans (q_iconst (x := 0) dX11_deliver_214 rfl) ?_
    exact q_retI dX11_deliver_215 rfl
theorem e_X11_deliver_216 (v1 : Int32) (v2 : Int32) (v3 : Int32) (v4 : Int32) (v5 : Int32) (h : mx_H)  : mx_D (6, mm_X11_deliver, 216, [.ref 47, .int v1, .int v2, .int v3, .int v4, .int v5, mx_junk], []) h = if (h.1 47 2) = 2 then mx_D (6, mm_X11_deliver, 230, [.ref 47, .int v1, .int v2, .int v3, .int v4, .int v5, mx_junk], [.int 1, .ref 47]) h else (mx_D (6, mm_X11_deliver, 230, [.ref 47, .int v1, .int v2, .int v3, .int v4, .int v5, mx_junk], [.int 0, .ref 47]) h) := by
  refine Eq.trans (q_aload_n dX11_deliver_216 rfl rfl) ?_
  refine Eq.trans (q_aload_n dX11_deliver_217 rfl rfl) ?_
  refine Eq.trans (q_getf dX11_deliver_218 mx_fld_11_115 (gf_47_2 _)) ?_
  refine Eq.trans (q_iconst (x := 2) dX11_deliver_221 rfl) ?_
  refine Eq.trans (q_icmp_ne 229 dX11_deliver_222 rfl) (q_ite2 ?_ ?_)
  · refine Eq.trans (q_iconst (x := 1) dX11_deliver_225 rfl) ?_
    refine Eq.trans (q_goto 230 dX11_deliver_226 rfl) ?_
    rfl
  · refine Eq.trans (q_iconst (x := 0) dX11_deliver_229 rfl) ?_
    rfl
theorem e_X11_deliver_230 (v1 : Int32) (v2 : Int32) (v3 : Int32) (v4 : Int32) (v5 : Int32) (s1 : Int32) (h : mx_H)  : mx_D (6, mm_X11_deliver, 230, [.ref 47, .int v1, .int v2, .int v3, .int v4, .int v5, mx_junk], [.int s1, .ref 47]) h = (mx_C mm_X11_pass [.ref 47, .int s1] h).bind (fun o => mx_D (6, mm_X11_deliver, 233, [.ref 47, .int v1, .int v2, .int v3, .int v4, .int v5, mx_junk], o.1.toList ++ []) o.2) := by
  exact q_call0 (as := [.int s1]) (rest := []) dX11_deliver_230 mx_inv_11_127 rfl rfl rfl ⟨Nat.le_of_ble_eq_true rfl, Nat.le_of_ble_eq_true rfl, (Nat.le_of_ble_eq_true rfl)⟩
theorem e_X11_deliver_233 (v1 : Int32) (v2 : Int32) (v3 : Int32) (v4 : Int32) (v5 : Int32) (s0 : Int32) (h : mx_H)  : mx_D (6, mm_X11_deliver, 233, [.ref 47, .int v1, .int v2, .int v3, .int v4, .int v5, mx_junk], [.int s0]) h = if s0 = 0 then some (some (.int ((-1))), h) else (if mx_in v5 12 = true then if (h.1 56 v5.toNatClampNeg) = 35 then mx_D (6, mm_X11_deliver, 260, [.ref 47, .int v1, .int v2, .int v3, .int v4, .int v5, mx_junk], [.int v3]) h else ((mx_C mm_X11_build [.ref 47, .int v5] h).bind (fun o => mx_D (6, mm_X11_deliver, 260, [.ref 47, .int v1, .int v2, .int v3, .int v4, .int v5, mx_junk], o.1.toList ++ []) o.2)) else none) := by
  refine Eq.trans (q_if_ne 238 dX11_deliver_233 rfl) (q_ite2 ?_ ?_)
  · refine Eq.trans (q_iconst (x := (-1)) dX11_deliver_236 rfl) ?_
    exact q_retI dX11_deliver_237 rfl
  · refine Eq.trans (q_aload_n dX11_deliver_238 rfl rfl) ?_
    refine Eq.trans (q_getf dX11_deliver_239 mx_fld_11_34 (gf_47_19 _)) ?_
    refine Eq.trans (q_iload dX11_deliver_242 rfl) ?_
    refine Eq.trans (q_ld (w := 0) (by decide) dX11_deliver_244 (al_56 _ _)) (q_ite ?_)
    refine Eq.trans (q_bipush (x := 35) dX11_deliver_245 rfl) ?_
    refine Eq.trans (q_icmp_ne 254 dX11_deliver_247 rfl) (q_ite2 ?_ ?_)
    · refine Eq.trans (q_iload_n dX11_deliver_250 rfl) ?_
      refine Eq.trans (q_goto 260 dX11_deliver_251 rfl) ?_
      rfl
    · refine Eq.trans (q_aload_n dX11_deliver_254 rfl rfl) ?_
      refine Eq.trans (q_iload dX11_deliver_255 rfl) ?_
      exact q_call0 (as := [.int v5]) (rest := []) dX11_deliver_257 mx_inv_11_259 rfl rfl rfl ⟨Nat.le_of_ble_eq_true rfl, Nat.le_of_ble_eq_true rfl, (Nat.le_of_ble_eq_true rfl)⟩
theorem e_X11_deliver_260 (v1 : Int32) (v2 : Int32) (v3 : Int32) (v4 : Int32) (v5 : Int32) (s0 : Int32) (h : mx_H)  : mx_D (6, mm_X11_deliver, 260, [.ref 47, .int v1, .int v2, .int v3, .int v4, .int v5, mx_junk], [.int s0]) h = if mx_in v5 12 = true then mx_D (6, mm_X11_deliver, 5, [.ref 47, .int v1, .int v2, .int s0, .int (h.1 57 v5.toNatClampNeg), .int v5, mx_junk], []) ((mx_u h.1 47 18 v5), h.2.1, h.2.2) else none := by
  refine Eq.trans (q_istore_n (L' := [.ref 47, .int v1, .int v2, .int s0, .int v4, .int v5, mx_junk]) dX11_deliver_260 (Nat.le_of_ble_eq_true rfl) rfl) ?_
  refine Eq.trans (q_aload_n dX11_deliver_261 rfl rfl) ?_
  refine Eq.trans (q_getf dX11_deliver_262 mx_fld_11_37 (gf_47_20 _)) ?_
  refine Eq.trans (q_iload dX11_deliver_265 rfl) ?_
  refine Eq.trans (q_ld (w := 0) (by decide) dX11_deliver_267 (al_57 _ _)) (q_ite ?_)
  refine Eq.trans (q_istore (L' := [.ref 47, .int v1, .int v2, .int s0, .int (h.1 57 v5.toNatClampNeg), .int v5, mx_junk]) dX11_deliver_268 (Nat.le_of_ble_eq_true rfl) rfl) ?_
  refine Eq.trans (q_aload_n dX11_deliver_270 rfl rfl) ?_
  refine Eq.trans (q_iload dX11_deliver_271 rfl) ?_
  refine Eq.trans (q_putf dX11_deliver_273 mx_fld_11_231 (pf_47_18 _ _)) ?_
  refine Eq.trans (q_goto 5 dX11_deliver_276 rfl) ?_
  rfl
theorem e_X11_readTerm_0  (h : mx_H)  : mx_D (9, mm_X11_readTerm, 0, [.ref 47, mx_junk, mx_junk, mx_junk], []) h = mx_D (9, mm_X11_readTerm, 7, [.ref 47, .int 0, mx_junk, mx_junk], []) ((mx_u h.1 47 18 0), h.2.1, h.2.2) := by
  refine Eq.trans (q_aload_n dX11_readTerm_0 rfl rfl) ?_
  refine Eq.trans (q_iconst (x := 0) dX11_readTerm_1 rfl) ?_
  refine Eq.trans (q_putf dX11_readTerm_2 mx_fld_11_231 (pf_47_18 _ _)) ?_
  refine Eq.trans (q_iconst (x := 0) dX11_readTerm_5 rfl) ?_
  refine Eq.trans (q_istore_n (L' := [.ref 47, .int 0, mx_junk, mx_junk]) dX11_readTerm_6 (Nat.le_of_ble_eq_true rfl) rfl) ?_
  rfl
theorem c_X11_readTerm  (h : mx_H) : mx_C mm_X11_readTerm [.ref 47] h = mx_D (9, mm_X11_readTerm, 0, [.ref 47, mx_junk, mx_junk, mx_junk], []) h := rfl
theorem e_X11_readTerm_7 (v1 : Int32) (v2 : Value) (v3 : Value) (h : mx_H)  : mx_D (9, mm_X11_readTerm, 7, [.ref 47, .int v1, v2, v3], []) h = if v1 = 0 then if (h.1 47 18) < 8 then if (h.1 47 2) = 1 then (mx_C mm_X11_next [.ref 47] h).bind (fun o => mx_D (9, mm_X11_readTerm, 43, [.ref 47, .int v1, .int (h.1 47 3), v3], o.1.toList ++ []) o.2) else (if (h.1 47 2) = 3 then (mx_C mm_X11_atom [.ref 47] h).bind (fun o => mx_D (9, mm_X11_readTerm, 65, [.ref 47, .int v1, .int (h.1 47 3), v3], o.1.toList ++ []) o.2) else (mx_D (9, mm_X11_readTerm, 69, [.ref 47, .int v1, .int (h.1 47 3), v3], [.int ((-1))]) h)) else ((mx_C mm_X11_wrong [.ref 47, .int (h.1 47 3)] h).bind (fun o => mx_D (9, mm_X11_readTerm, 30, [.ref 47, .int v1, .int (h.1 47 3), v3], o.1.toList ++ []) o.2)) else (if v1 ≤ 0 then mx_D (9, mm_X11_readTerm, 107, [.ref 47, .int v1, v2, v3], [.int 0]) h else (mx_D (9, mm_X11_readTerm, 107, [.ref 47, .int v1, v2, v3], [.int 1]) h)) := by
  refine Eq.trans (q_iload_n dX11_readTerm_7 rfl) ?_
  refine Eq.trans (q_if_ne 98 dX11_readTerm_8 rfl) (q_ite2 ?_ ?_)
  · refine Eq.trans (q_aload_n dX11_readTerm_11 rfl rfl) ?_
    refine Eq.trans (q_getf dX11_readTerm_12 mx_fld_11_102 (gf_47_3 _)) ?_
    refine Eq.trans (q_istore_n (L' := [.ref 47, .int v1, .int (h.1 47 3), v3]) dX11_readTerm_15 (Nat.le_of_ble_eq_true rfl) rfl) ?_
    refine Eq.trans (q_aload_n dX11_readTerm_16 rfl rfl) ?_
    refine Eq.trans (q_getf dX11_readTerm_17 mx_fld_11_231 (gf_47_18 _)) ?_
    refine Eq.trans (q_bipush (x := 8) dX11_readTerm_20 rfl) ?_
    refine Eq.trans (q_icmp_lt 31 dX11_readTerm_22 rfl) (q_ite2 ?_ ?_)
    · refine Eq.trans (q_aload_n dX11_readTerm_31 rfl rfl) ?_
      refine Eq.trans (q_getf dX11_readTerm_32 mx_fld_11_115 (gf_47_2 _)) ?_
      refine Eq.trans (q_iconst (x := 1) dX11_readTerm_35 rfl) ?_
      refine Eq.trans (q_icmp_ne 53 dX11_readTerm_36 rfl) (q_ite2 ?_ ?_)
      · refine Eq.trans (q_aload_n dX11_readTerm_39 rfl rfl) ?_
        exact q_call0 (as := []) (rest := []) dX11_readTerm_40 mx_inv_11_124 rfl rfl rfl ⟨Nat.le_of_ble_eq_true rfl, Nat.le_of_ble_eq_true rfl, (Nat.le_of_ble_eq_true rfl)⟩
      · refine Eq.trans (q_aload_n dX11_readTerm_53 rfl rfl) ?_
        refine Eq.trans (q_getf dX11_readTerm_54 mx_fld_11_115 (gf_47_2 _)) ?_
        refine Eq.trans (q_iconst (x := 3) dX11_readTerm_57 rfl) ?_
        refine Eq.trans (q_icmp_ne 68 dX11_readTerm_58 rfl) (q_ite2 ?_ ?_)
        · refine Eq.trans (q_aload_n dX11_readTerm_61 rfl rfl) ?_
          exact q_call0 (as := []) (rest := []) dX11_readTerm_62 mx_inv_11_271 rfl rfl rfl ⟨Nat.le_of_ble_eq_true rfl, Nat.le_of_ble_eq_true rfl, (Nat.le_of_ble_eq_true rfl)⟩
        · refine Eq.trans (q_iconst (x := (-1)) dX11_readTerm_68 rfl) ?_
          rfl
    · refine Eq.trans (q_aload_n dX11_readTerm_25 rfl rfl) ?_
      refine Eq.trans (q_iload_n dX11_readTerm_26 rfl) ?_
      exact q_call0 (as := [.int (h.1 47 3)]) (rest := []) dX11_readTerm_27 mx_inv_11_121 rfl rfl rfl ⟨Nat.le_of_ble_eq_true rfl, Nat.le_of_ble_eq_true rfl, (Nat.le_of_ble_eq_true rfl)⟩
  · refine Eq.trans (q_iload_n dX11_readTerm_98 rfl) ?_
    refine Eq.trans (q_if_le 106 dX11_readTerm_99 rfl) (q_ite2 ?_ ?_)
    · refine Eq.trans (q_iconst (x := 0) dX11_readTerm_106 rfl) ?_
      rfl
    · refine Eq.trans (q_iconst (x := 1) dX11_readTerm_102 rfl) ?_
      refine Eq.trans (q_goto 107 dX11_readTerm_103 rfl) ?_
      rfl
theorem e_X11_readTerm_30 (v1 : Int32) (v2 : Int32) (v3 : Value) (s0 : Int32) (h : mx_H)  : mx_D (9, mm_X11_readTerm, 30, [.ref 47, .int v1, .int v2, v3], [.int s0]) h = if narrow .boolean (.int s0) = .int s0 then some (some (.int s0), h) else none := by
  exact q_ret dX11_readTerm_30 rfl
theorem e_X11_readTerm_43 (v1 : Int32) (v2 : Int32) (v3 : Value) (h : mx_H)  : mx_D (9, mm_X11_readTerm, 43, [.ref 47, .int v1, .int v2, v3], []) h = (mx_C mm_X11_readHead [.ref 47, .int v2] h).bind (fun o => mx_D (9, mm_X11_readTerm, 48, [.ref 47, .int v1, .int v2, v3], o.1.toList ++ []) o.2) := by
  refine Eq.trans (q_aload_n dX11_readTerm_43 rfl rfl) ?_
  refine Eq.trans (q_iload_n dX11_readTerm_44 rfl) ?_
  exact q_call0 (as := [.int v2]) (rest := []) dX11_readTerm_45 mx_inv_11_268 rfl rfl rfl ⟨Nat.le_of_ble_eq_true rfl, Nat.le_of_ble_eq_true rfl, (Nat.le_of_ble_eq_true rfl)⟩
theorem e_X11_readTerm_48 (v1 : Int32) (v2 : Int32) (v3 : Value) (s0 : Int32) (h : mx_H)  : mx_D (9, mm_X11_readTerm, 48, [.ref 47, .int v1, .int v2, v3], [.int s0]) h = if s0 = 0 then some (some (.int 0), h) else (mx_D (9, mm_X11_readTerm, 95, [.ref 47, .int v1, .int v2, v3], []) h) := by
  refine Eq.trans (q_if_ne 95 dX11_readTerm_48 rfl) (q_ite2 ?_ ?_)
  · refine Eq.trans (q_iconst (x := 0) dX11_readTerm_51 rfl) ?_
    exact Eq.trans (q_ret dX11_readTerm_52 rfl) (if_pos rfl)
  · rfl
theorem e_X11_readTerm_65 (v1 : Int32) (v2 : Int32) (v3 : Value) (s0 : Int32) (h : mx_H)  : mx_D (9, mm_X11_readTerm, 65, [.ref 47, .int v1, .int v2, v3], [.int s0]) h = mx_D (9, mm_X11_readTerm, 69, [.ref 47, .int v1, .int v2, v3], [.int s0]) h := by
  refine Eq.trans (q_goto 69 dX11_readTerm_65 rfl) ?_
  rfl
theorem e_X11_readTerm_69 (v1 : Int32) (v2 : Int32) (v3 : Value) (s0 : Int32) (h : mx_H)  : mx_D (9, mm_X11_readTerm, 69, [.ref 47, .int v1, .int v2, v3], [.int s0]) h = if s0 < 0 then mx_D (9, mm_X11_readTerm, 80, [.ref 47, .int v1, .int v2, .int s0], [.int 0, .ref 47]) h else (mx_D (9, mm_X11_readTerm, 80, [.ref 47, .int v1, .int v2, .int s0], [.int 1, .ref 47]) h) := by
  refine Eq.trans (q_istore_n (L' := [.ref 47, .int v1, .int v2, .int s0]) dX11_readTerm_69 (Nat.le_of_ble_eq_true rfl) rfl) ?_
  refine Eq.trans (q_aload_n dX11_readTerm_70 rfl rfl) ?_
  refine Eq.trans (q_iload_n dX11_readTerm_71 rfl) ?_
  refine Eq.trans (q_if_lt 79 dX11_readTerm_72 rfl) (q_ite2 ?_ ?_)
  · refine Eq.trans (q_iconst (x := 0) dX11_readTerm_79 rfl) ?_
    rfl
  · refine Eq.trans (q_iconst (x := 1) dX11_readTerm_75 rfl) ?_
    refine Eq.trans (q_goto 80 dX11_readTerm_76 rfl) ?_
    rfl
theorem e_X11_readTerm_80 (v1 : Int32) (v2 : Int32) (v3 : Int32) (s1 : Int32) (h : mx_H)  : mx_D (9, mm_X11_readTerm, 80, [.ref 47, .int v1, .int v2, .int v3], [.int s1, .ref 47]) h = (mx_C mm_X11_pass [.ref 47, .int s1] h).bind (fun o => mx_D (9, mm_X11_readTerm, 83, [.ref 47, .int v1, .int v2, .int v3], o.1.toList ++ []) o.2) := by
  exact q_call0 (as := [.int s1]) (rest := []) dX11_readTerm_80 mx_inv_11_127 rfl rfl rfl ⟨Nat.le_of_ble_eq_true rfl, Nat.le_of_ble_eq_true rfl, (Nat.le_of_ble_eq_true rfl)⟩
theorem e_X11_readTerm_83 (v1 : Int32) (v2 : Int32) (v3 : Int32) (s0 : Int32) (h : mx_H)  : mx_D (9, mm_X11_readTerm, 83, [.ref 47, .int v1, .int v2, .int v3], [.int s0]) h = if s0 = 0 then some (some (.int 0), h) else ((mx_C mm_X11_deliver [.ref 47, .int v3, .int v2] h).bind (fun o => mx_D (9, mm_X11_readTerm, 94, [.ref 47, .int v1, .int v2, .int v3], o.1.toList ++ []) o.2)) := by
  refine Eq.trans (q_if_ne 88 dX11_readTerm_83 rfl) (q_ite2 ?_ ?_)
  · refine Eq.trans (q_iconst (x := 0) dX11_readTerm_86 rfl) ?_
    exact Eq.trans (q_ret dX11_readTerm_87 rfl) (if_pos rfl)
  · refine Eq.trans (q_aload_n dX11_readTerm_88 rfl rfl) ?_
    refine Eq.trans (q_iload_n dX11_readTerm_89 rfl) ?_
    refine Eq.trans (q_iload_n dX11_readTerm_90 rfl) ?_
    exact q_call0 (as := [.int v3, .int v2]) (rest := []) dX11_readTerm_91 mx_inv_11_274 rfl rfl rfl ⟨Nat.le_of_ble_eq_true rfl, Nat.le_of_ble_eq_true rfl, (Nat.le_of_ble_eq_true rfl)⟩
theorem e_X11_readTerm_94 (v1 : Int32) (v2 : Int32) (v3 : Int32) (s0 : Int32) (h : mx_H)  : mx_D (9, mm_X11_readTerm, 94, [.ref 47, .int v1, .int v2, .int v3], [.int s0]) h = mx_D (9, mm_X11_readTerm, 95, [.ref 47, .int s0, .int v2, .int v3], []) h := by
  refine Eq.trans (q_istore_n (L' := [.ref 47, .int s0, .int v2, .int v3]) dX11_readTerm_94 (Nat.le_of_ble_eq_true rfl) rfl) ?_
  rfl
theorem e_X11_readTerm_95 (v1 : Int32) (v2 : Int32) (v3 : Value) (h : mx_H)  : mx_D (9, mm_X11_readTerm, 95, [.ref 47, .int v1, .int v2, v3], []) h = mx_D (9, mm_X11_readTerm, 7, [.ref 47, .int v1, .int v2, v3], []) h := by
  refine Eq.trans (q_goto 7 dX11_readTerm_95 rfl) ?_
  rfl
theorem e_X11_readTerm_107 (v1 : Int32) (v2 : Value) (v3 : Value) (s0 : Int32) (h : mx_H)  : mx_D (9, mm_X11_readTerm, 107, [.ref 47, .int v1, v2, v3], [.int s0]) h = if narrow .boolean (.int s0) = .int s0 then some (some (.int s0), h) else none := by
  exact q_ret dX11_readTerm_107 rfl
theorem e_X11_isConstant_0  (h : mx_H)  : mx_D (1, mm_X11_isConstant, 0, [.ref 47, mx_junk, mx_junk], []) h = mx_D (1, mm_X11_isConstant, 4, [.ref 47, .int 0, .int 0], []) h := by
  refine Eq.trans (q_iconst (x := 0) dX11_isConstant_0 rfl) ?_
  refine Eq.trans (q_istore_n (L' := [.ref 47, .int 0, mx_junk]) dX11_isConstant_1 (Nat.le_of_ble_eq_true rfl) rfl) ?_
  refine Eq.trans (q_iconst (x := 0) dX11_isConstant_2 rfl) ?_
  refine Eq.trans (q_istore_n (L' := [.ref 47, .int 0, .int 0]) dX11_isConstant_3 (Nat.le_of_ble_eq_true rfl) rfl) ?_
  rfl
theorem c_X11_isConstant  (h : mx_H) : mx_C mm_X11_isConstant [.ref 47] h = mx_D (1, mm_X11_isConstant, 0, [.ref 47, mx_junk, mx_junk], []) h := rfl
theorem e_X11_isConstant_4 (v1 : Int32) (v2 : Int32) (h : mx_H)  : mx_D (1, mm_X11_isConstant, 4, [.ref 47, .int v1, .int v2], []) h = if (h.1 47 28) ≤ v2 then if narrow .boolean (.int v1) = .int v1 then some (some (.int v1), h) else none else (if v1 = 0 then if mx_in v2 12 = true then if (lg_cmp (h.2.1 63 v2.toNatClampNeg) (h.2.1 47 5)) = 0 then mx_D (1, mm_X11_isConstant, 30, [.ref 47, .int v1, .int v2], []) h else (mx_D (1, mm_X11_isConstant, 35, [.ref 47, .int v1, .int v2], [.int 0]) h) else none else (mx_D (1, mm_X11_isConstant, 30, [.ref 47, .int v1, .int v2], []) h)) := by
  refine Eq.trans (q_iload_n dX11_isConstant_4 rfl) ?_
  refine Eq.trans (q_aload_n dX11_isConstant_5 rfl rfl) ?_
  refine Eq.trans (q_getf dX11_isConstant_6 mx_fld_11_228 (gf_47_28 _)) ?_
  refine Eq.trans (q_icmp_ge 42 dX11_isConstant_9 rfl) (q_ite2 ?_ ?_)
  · refine Eq.trans (q_iload_n dX11_isConstant_42 rfl) ?_
    exact q_ret dX11_isConstant_43 rfl
  · refine Eq.trans (q_iload_n dX11_isConstant_12 rfl) ?_
    refine Eq.trans (q_if_ne 30 dX11_isConstant_13 rfl) (q_ite2 ?_ ?_)
    · refine Eq.trans (q_aload_n dX11_isConstant_16 rfl rfl) ?_
      refine Eq.trans (q_getf dX11_isConstant_17 mx_fld_11_56 (gf_47_29 _)) ?_
      refine Eq.trans (q_iload_n dX11_isConstant_20 rfl) ?_
      refine Eq.trans (q_ld (w := 3) (by decide) dX11_isConstant_21 (al_63 _ _)) (q_ite ?_)
      refine Eq.trans (q_aload_n dX11_isConstant_22 rfl rfl) ?_
      refine Eq.trans (q_getf dX11_isConstant_23 mx_fld_11_105 (gf_47_5 _)) ?_
      refine Eq.trans (q_lcmp dX11_isConstant_26) ?_
      refine Eq.trans (q_if_ne 34 dX11_isConstant_27 rfl) (q_ite2 ?_ ?_)
      · rfl
      · refine Eq.trans (q_iconst (x := 0) dX11_isConstant_34 rfl) ?_
        rfl
    · rfl
theorem e_X11_isConstant_30 (v1 : Int32) (v2 : Int32) (h : mx_H)  : mx_D (1, mm_X11_isConstant, 30, [.ref 47, .int v1, .int v2], []) h = mx_D (1, mm_X11_isConstant, 35, [.ref 47, .int v1, .int v2], [.int 1]) h := by
  refine Eq.trans (q_iconst (x := 1) dX11_isConstant_30 rfl) ?_
  refine Eq.trans (q_goto 35 dX11_isConstant_31 rfl) ?_
  rfl
theorem e_X11_isConstant_35 (v1 : Int32) (v2 : Int32) (s0 : Int32) (h : mx_H)  : mx_D (1, mm_X11_isConstant, 35, [.ref 47, .int v1, .int v2], [.int s0]) h = mx_D (1, mm_X11_isConstant, 4, [.ref 47, .int s0, .int (v2 + 1)], []) h := by
  refine Eq.trans (q_istore_n (L' := [.ref 47, .int s0, .int v2]) dX11_isConstant_35 (Nat.le_of_ble_eq_true rfl) rfl) ?_
  refine Eq.trans (q_iinc (x' := 1) (L' := [.ref 47, .int s0, .int (v2 + 1)]) dX11_isConstant_36 rfl rfl rfl) ?_
  refine Eq.trans (q_goto 4 dX11_isConstant_39 rfl) ?_
  rfl
theorem e_X11_bitsOf_0 (v0 : Int32) (h : mx_H)  : mx_D (1, mm_X11_bitsOf, 0, [.int v0], []) h = if v0 = 0 then mx_D (1, mm_X11_bitsOf, 22, [.int v0], [.int 1]) h else (if v0 ≤ 4 then mx_D (1, mm_X11_bitsOf, 22, [.int v0], [.int v0]) h else (mx_D (1, mm_X11_bitsOf, 22, [.int v0], [.int (2 * (v0 - 4))]) h)) := by
  refine Eq.trans (q_iload_n dX11_bitsOf_0 rfl) ?_
  refine Eq.trans (q_if_ne 8 dX11_bitsOf_1 rfl) (q_ite2 ?_ ?_)
  · refine Eq.trans (q_iconst (x := 1) dX11_bitsOf_4 rfl) ?_
    refine Eq.trans (q_goto 22 dX11_bitsOf_5 rfl) ?_
    rfl
  · refine Eq.trans (q_iload_n dX11_bitsOf_8 rfl) ?_
    refine Eq.trans (q_iconst (x := 4) dX11_bitsOf_9 rfl) ?_
    refine Eq.trans (q_icmp_le 21 dX11_bitsOf_10 rfl) (q_ite2 ?_ ?_)
    · refine Eq.trans (q_iload_n dX11_bitsOf_21 rfl) ?_
      rfl
    · refine Eq.trans (q_iconst (x := 2) dX11_bitsOf_13 rfl) ?_
      refine Eq.trans (q_iload_n dX11_bitsOf_14 rfl) ?_
      refine Eq.trans (q_iconst (x := 4) dX11_bitsOf_15 rfl) ?_
      refine Eq.trans (q_isub dX11_bitsOf_16) ?_
      refine Eq.trans (q_imul dX11_bitsOf_17) ?_
      refine Eq.trans (q_goto 22 dX11_bitsOf_18 rfl) ?_
      rfl
theorem c_X11_bitsOf (v0 : Int32) (h : mx_H) : mx_C mm_X11_bitsOf [.int v0] h = mx_D (1, mm_X11_bitsOf, 0, [.int v0], []) h := rfl
theorem e_X11_bitsOf_22 (v0 : Int32) (s0 : Int32) (h : mx_H)  : mx_D (1, mm_X11_bitsOf, 22, [.int v0], [.int s0]) h = some (some (.int s0), h) := by
  exact q_retI dX11_bitsOf_22 rfl
theorem e_X11_allBits_0  (h : mx_H)  : mx_D (2, mm_X11_allBits, 0, [.ref 47, mx_junk, mx_junk], []) h = mx_D (2, mm_X11_allBits, 4, [.ref 47, .int 0, .int 0], []) h := by
  refine Eq.trans (q_iconst (x := 0) dX11_allBits_0 rfl) ?_
  refine Eq.trans (q_istore_n (L' := [.ref 47, .int 0, mx_junk]) dX11_allBits_1 (Nat.le_of_ble_eq_true rfl) rfl) ?_
  refine Eq.trans (q_iconst (x := 0) dX11_allBits_2 rfl) ?_
  refine Eq.trans (q_istore_n (L' := [.ref 47, .int 0, .int 0]) dX11_allBits_3 (Nat.le_of_ble_eq_true rfl) rfl) ?_
  rfl
theorem c_X11_allBits  (h : mx_H) : mx_C mm_X11_allBits [.ref 47] h = mx_D (2, mm_X11_allBits, 0, [.ref 47, mx_junk, mx_junk], []) h := rfl
theorem e_X11_allBits_4 (v1 : Int32) (v2 : Int32) (h : mx_H)  : mx_D (2, mm_X11_allBits, 4, [.ref 47, .int v1, .int v2], []) h = if (h.1 47 28) ≤ v2 then some (some (.int v1), h) else (if mx_in v2 12 = true then if mx_in (h.1 64 v2.toNatClampNeg) 130 = true then (mx_C mm_X11_bitsOf [.int (h.1 50 ((h.1 64 v2.toNatClampNeg).toNatClampNeg))] h).bind (fun o => mx_D (2, mm_X11_allBits, 27, [.ref 47, .int v1, .int v2], o.1.toList ++ [.int v1]) o.2) else none else none) := by
  refine Eq.trans (q_iload_n dX11_allBits_4 rfl) ?_
  refine Eq.trans (q_aload_n dX11_allBits_5 rfl rfl) ?_
  refine Eq.trans (q_getf dX11_allBits_6 mx_fld_11_228 (gf_47_28 _)) ?_
  refine Eq.trans (q_icmp_ge 35 dX11_allBits_9 rfl) (q_ite2 ?_ ?_)
  · refine Eq.trans (q_iload_n dX11_allBits_35 rfl) ?_
    exact q_retI dX11_allBits_36 rfl
  · refine Eq.trans (q_iload_n dX11_allBits_12 rfl) ?_
    refine Eq.trans (q_aload_n dX11_allBits_13 rfl rfl) ?_
    refine Eq.trans (q_getf dX11_allBits_14 mx_fld_11_16 (gf_47_11 _)) ?_
    refine Eq.trans (q_aload_n dX11_allBits_17 rfl rfl) ?_
    refine Eq.trans (q_getf dX11_allBits_18 mx_fld_11_59 (gf_47_30 _)) ?_
    refine Eq.trans (q_iload_n dX11_allBits_21 rfl) ?_
    refine Eq.trans (q_ld (w := 0) (by decide) dX11_allBits_22 (al_64 _ _)) (q_ite ?_)
    refine Eq.trans (q_ld (w := 0) (by decide) dX11_allBits_23 (al_50 _ _)) (q_ite ?_)
    exact q_call1 (as := [.int (h.1 50 ((h.1 64 v2.toNatClampNeg).toNatClampNeg))]) (rest := [.int v1]) dX11_allBits_24 mx_inv_11_278 rfl rfl ⟨Nat.le_of_ble_eq_true rfl, Nat.le_of_ble_eq_true rfl, (Nat.le_of_ble_eq_true rfl)⟩
theorem e_X11_allBits_27 (v1 : Int32) (v2 : Int32) (s0 : Int32) (s1 : Int32) (h : mx_H)  : mx_D (2, mm_X11_allBits, 27, [.ref 47, .int v1, .int v2], [.int s1, .int s0]) h = mx_D (2, mm_X11_allBits, 4, [.ref 47, .int (s0 + s1), .int (v2 + 1)], []) h := by
  refine Eq.trans (q_iadd dX11_allBits_27) ?_
  refine Eq.trans (q_istore_n (L' := [.ref 47, .int (s0 + s1), .int v2]) dX11_allBits_28 (Nat.le_of_ble_eq_true rfl) rfl) ?_
  refine Eq.trans (q_iinc (x' := 1) (L' := [.ref 47, .int (s0 + s1), .int (v2 + 1)]) dX11_allBits_29 rfl rfl rfl) ?_
  refine Eq.trans (q_goto 4 dX11_allBits_32 rfl) ?_
  rfl
theorem e_X11_tooMany_0  (h : mx_H)  : mx_D (2, mm_X11_tooMany, 0, [.ref 47, mx_junk, mx_junk], []) h = mx_D (2, mm_X11_tooMany, 4, [.ref 47, .int 0, .int 0], []) h := by
  refine Eq.trans (q_iconst (x := 0) dX11_tooMany_0 rfl) ?_
  refine Eq.trans (q_istore_n (L' := [.ref 47, .int 0, mx_junk]) dX11_tooMany_1 (Nat.le_of_ble_eq_true rfl) rfl) ?_
  refine Eq.trans (q_iconst (x := 0) dX11_tooMany_2 rfl) ?_
  refine Eq.trans (q_istore_n (L' := [.ref 47, .int 0, .int 0]) dX11_tooMany_3 (Nat.le_of_ble_eq_true rfl) rfl) ?_
  rfl
theorem c_X11_tooMany  (h : mx_H) : mx_C mm_X11_tooMany [.ref 47] h = mx_D (2, mm_X11_tooMany, 0, [.ref 47, mx_junk, mx_junk], []) h := rfl
theorem e_X11_tooMany_4 (v1 : Int32) (v2 : Int32) (h : mx_H)  : mx_D (2, mm_X11_tooMany, 4, [.ref 47, .int v1, .int v2], []) h = if (h.1 47 9) ≤ v2 then if 60 < (h.1 47 9) then mx_D (2, mm_X11_tooMany, 56, [.ref 47, .int v1, .int v2], []) h else (if v1 ≤ 2 then mx_D (2, mm_X11_tooMany, 61, [.ref 47, .int v1, .int v2], [.int 0]) h else (mx_D (2, mm_X11_tooMany, 56, [.ref 47, .int v1, .int v2], []) h)) else (if mx_in v2 130 = true then (mx_C mm_X11_in [.int (h.1 49 v2.toNatClampNeg), .int 19, .int 21] h).bind (fun o => mx_D (2, mm_X11_tooMany, 25, [.ref 47, .int v1, .int v2], o.1.toList ++ []) o.2) else none) := by
  refine Eq.trans (q_iload_n dX11_tooMany_4 rfl) ?_
  refine Eq.trans (q_aload_n dX11_tooMany_5 rfl rfl) ?_
  refine Eq.trans (q_getf dX11_tooMany_6 mx_fld_11_219 (gf_47_9 _)) ?_
  refine Eq.trans (q_icmp_ge 42 dX11_tooMany_9 rfl) (q_ite2 ?_ ?_)
  · refine Eq.trans (q_aload_n dX11_tooMany_42 rfl rfl) ?_
    refine Eq.trans (q_getf dX11_tooMany_43 mx_fld_11_219 (gf_47_9 _)) ?_
    refine Eq.trans (q_bipush (x := 60) dX11_tooMany_46 rfl) ?_
    refine Eq.trans (q_icmp_gt 56 dX11_tooMany_48 rfl) (q_ite2 ?_ ?_)
    · rfl
    · refine Eq.trans (q_iload_n dX11_tooMany_51 rfl) ?_
      refine Eq.trans (q_iconst (x := 2) dX11_tooMany_52 rfl) ?_
      refine Eq.trans (q_icmp_le 60 dX11_tooMany_53 rfl) (q_ite2 ?_ ?_)
      · refine Eq.trans (q_iconst (x := 0) dX11_tooMany_60 rfl) ?_
        rfl
      · rfl
  · refine Eq.trans (q_aload_n dX11_tooMany_12 rfl rfl) ?_
    refine Eq.trans (q_getf dX11_tooMany_13 mx_fld_11_13 (gf_47_10 _)) ?_
    refine Eq.trans (q_iload_n dX11_tooMany_16 rfl) ?_
    refine Eq.trans (q_ld (w := 0) (by decide) dX11_tooMany_17 (al_49 _ _)) (q_ite ?_)
    refine Eq.trans (q_bipush (x := 19) dX11_tooMany_18 rfl) ?_
    refine Eq.trans (q_bipush (x := 21) dX11_tooMany_20 rfl) ?_
    exact q_call1 (as := [.int (h.1 49 v2.toNatClampNeg), .int 19, .int 21]) (rest := []) dX11_tooMany_22 mx_inv_11_84 rfl rfl ⟨Nat.le_of_ble_eq_true rfl, Nat.le_of_ble_eq_true rfl, (Nat.le_of_ble_eq_true rfl)⟩
theorem e_X11_tooMany_25 (v1 : Int32) (v2 : Int32) (s0 : Int32) (h : mx_H)  : mx_D (2, mm_X11_tooMany, 25, [.ref 47, .int v1, .int v2], [.int s0]) h = if s0 = 0 then mx_D (2, mm_X11_tooMany, 35, [.ref 47, .int v1, .int v2], [.int v1]) h else (mx_D (2, mm_X11_tooMany, 35, [.ref 47, .int v1, .int v2], [.int (v1 + 1)]) h) := by
  refine Eq.trans (q_if_eq 34 dX11_tooMany_25 rfl) (q_ite2 ?_ ?_)
  · refine Eq.trans (q_iload_n dX11_tooMany_34 rfl) ?_
    rfl
  · refine Eq.trans (q_iload_n dX11_tooMany_28 rfl) ?_
    refine Eq.trans (q_iconst (x := 1) dX11_tooMany_29 rfl) ?_
    refine Eq.trans (q_iadd dX11_tooMany_30) ?_
    refine Eq.trans (q_goto 35 dX11_tooMany_31 rfl) ?_
    rfl
theorem e_X11_tooMany_35 (v1 : Int32) (v2 : Int32) (s0 : Int32) (h : mx_H)  : mx_D (2, mm_X11_tooMany, 35, [.ref 47, .int v1, .int v2], [.int s0]) h = mx_D (2, mm_X11_tooMany, 4, [.ref 47, .int s0, .int (v2 + 1)], []) h := by
  refine Eq.trans (q_istore_n (L' := [.ref 47, .int s0, .int v2]) dX11_tooMany_35 (Nat.le_of_ble_eq_true rfl) rfl) ?_
  refine Eq.trans (q_iinc (x' := 1) (L' := [.ref 47, .int s0, .int (v2 + 1)]) dX11_tooMany_36 rfl rfl rfl) ?_
  refine Eq.trans (q_goto 4 dX11_tooMany_39 rfl) ?_
  rfl
theorem e_X11_tooMany_56 (v1 : Int32) (v2 : Int32) (h : mx_H)  : mx_D (2, mm_X11_tooMany, 56, [.ref 47, .int v1, .int v2], []) h = mx_D (2, mm_X11_tooMany, 61, [.ref 47, .int v1, .int v2], [.int 1]) h := by
  refine Eq.trans (q_iconst (x := 1) dX11_tooMany_56 rfl) ?_
  refine Eq.trans (q_goto 61 dX11_tooMany_57 rfl) ?_
  rfl
theorem e_X11_tooMany_61 (v1 : Int32) (v2 : Int32) (s0 : Int32) (h : mx_H)  : mx_D (2, mm_X11_tooMany, 61, [.ref 47, .int v1, .int v2], [.int s0]) h = if narrow .boolean (.int s0) = .int s0 then some (some (.int s0), h) else none := by
  exact q_ret dX11_tooMany_61 rfl
theorem e_X11_ends_0  (h : mx_H)  : mx_D (6, mm_X11_ends, 0, [.ref 47], []) h = if (h.1 47 2) = 2 then mx_D (6, mm_X11_ends, 14, [.ref 47], [.int 1, .ref 47]) h else (mx_D (6, mm_X11_ends, 14, [.ref 47], [.int 0, .ref 47]) h) := by
  refine Eq.trans (q_aload_n dX11_ends_0 rfl rfl) ?_
  refine Eq.trans (q_aload_n dX11_ends_1 rfl rfl) ?_
  refine Eq.trans (q_getf dX11_ends_2 mx_fld_11_115 (gf_47_2 _)) ?_
  refine Eq.trans (q_iconst (x := 2) dX11_ends_5 rfl) ?_
  refine Eq.trans (q_icmp_ne 13 dX11_ends_6 rfl) (q_ite2 ?_ ?_)
  · refine Eq.trans (q_iconst (x := 1) dX11_ends_9 rfl) ?_
    refine Eq.trans (q_goto 14 dX11_ends_10 rfl) ?_
    rfl
  · refine Eq.trans (q_iconst (x := 0) dX11_ends_13 rfl) ?_
    rfl
theorem c_X11_ends  (h : mx_H) : mx_C mm_X11_ends [.ref 47] h = mx_D (6, mm_X11_ends, 0, [.ref 47], []) h := rfl
theorem e_X11_ends_14 (s1 : Int32) (h : mx_H)  : mx_D (6, mm_X11_ends, 14, [.ref 47], [.int s1, .ref 47]) h = (mx_C mm_X11_pass [.ref 47, .int s1] h).bind (fun o => mx_D (6, mm_X11_ends, 17, [.ref 47], o.1.toList ++ []) o.2) := by
  exact q_call0 (as := [.int s1]) (rest := []) dX11_ends_14 mx_inv_11_127 rfl rfl rfl ⟨Nat.le_of_ble_eq_true rfl, Nat.le_of_ble_eq_true rfl, (Nat.le_of_ble_eq_true rfl)⟩
theorem e_X11_ends_17 (s0 : Int32) (h : mx_H)  : mx_D (6, mm_X11_ends, 17, [.ref 47], [.int s0]) h = if s0 = 0 then some (some (.int 0), h) else (if (h.1 47 2) = 0 then some (some (.int 1), h) else ((mx_C mm_X11_wrong [.ref 47, .int (h.1 47 3)] h).bind (fun o => mx_D (6, mm_X11_ends, 37, [.ref 47], o.1.toList ++ []) o.2))) := by
  refine Eq.trans (q_if_ne 22 dX11_ends_17 rfl) (q_ite2 ?_ ?_)
  · refine Eq.trans (q_iconst (x := 0) dX11_ends_20 rfl) ?_
    exact Eq.trans (q_ret dX11_ends_21 rfl) (if_pos rfl)
  · refine Eq.trans (q_aload_n dX11_ends_22 rfl rfl) ?_
    refine Eq.trans (q_getf dX11_ends_23 mx_fld_11_115 (gf_47_2 _)) ?_
    refine Eq.trans (q_if_eq 38 dX11_ends_26 rfl) (q_ite2 ?_ ?_)
    · refine Eq.trans (q_iconst (x := 1) dX11_ends_38 rfl) ?_
      exact Eq.trans (q_ret dX11_ends_39 rfl) (if_pos rfl)
    · refine Eq.trans (q_aload_n dX11_ends_29 rfl rfl) ?_
      refine Eq.trans (q_aload_n dX11_ends_30 rfl rfl) ?_
      refine Eq.trans (q_getf dX11_ends_31 mx_fld_11_102 (gf_47_3 _)) ?_
      exact q_call0 (as := [.int (h.1 47 3)]) (rest := []) dX11_ends_34 mx_inv_11_121 rfl rfl rfl ⟨Nat.le_of_ble_eq_true rfl, Nat.le_of_ble_eq_true rfl, (Nat.le_of_ble_eq_true rfl)⟩
theorem e_X11_ends_37 (s0 : Int32) (h : mx_H)  : mx_D (6, mm_X11_ends, 37, [.ref 47], [.int s0]) h = if narrow .boolean (.int s0) = .int s0 then some (some (.int s0), h) else none := by
  exact q_ret dX11_ends_37 rfl
theorem e_X11_declare_0  (h : mx_H)  : mx_D (9, mm_X11_declare, 0, [.ref 47, mx_junk, mx_junk, mx_junk, mx_junk], []) h = (mx_C mm_X11_isName [.ref 47] h).bind (fun o => mx_D (9, mm_X11_declare, 10, [.ref 47, .long (h.2.1 47 5), mx_junk, mx_junk, mx_junk], o.1.toList ++ [.ref 47]) o.2) := by
  refine Eq.trans (q_aload_n dX11_declare_0 rfl rfl) ?_
  refine Eq.trans (q_getf dX11_declare_1 mx_fld_11_105 (gf_47_5 _)) ?_
  refine Eq.trans (q_lstore_n (L' := [.ref 47, .long (h.2.1 47 5), mx_junk, mx_junk, mx_junk]) dX11_declare_4 (Nat.le_of_ble_eq_true rfl) rfl) ?_
  refine Eq.trans (q_aload_n dX11_declare_5 rfl rfl) ?_
  refine Eq.trans (q_aload_n dX11_declare_6 rfl rfl) ?_
  exact q_call0 (as := []) (rest := [.ref 47]) dX11_declare_7 mx_inv_11_237 rfl rfl rfl ⟨Nat.le_of_ble_eq_true rfl, Nat.le_of_ble_eq_true rfl, (Nat.le_of_ble_eq_true rfl)⟩
theorem c_X11_declare  (h : mx_H) : mx_C mm_X11_declare [.ref 47] h = mx_D (9, mm_X11_declare, 0, [.ref 47, mx_junk, mx_junk, mx_junk, mx_junk], []) h := rfl
theorem e_X11_declare_10 (v1 : Int64) (s1 : Int32) (h : mx_H)  : mx_D (9, mm_X11_declare, 10, [.ref 47, .long v1, mx_junk, mx_junk, mx_junk], [.int s1, .ref 47]) h = if s1 = 0 then mx_D (9, mm_X11_declare, 24, [.ref 47, .long v1, mx_junk, mx_junk, mx_junk], [.ref 47]) h else ((mx_C mm_X11_isConstant [.ref 47] h).bind (fun o => mx_D (9, mm_X11_declare, 17, [.ref 47, .long v1, mx_junk, mx_junk, mx_junk], o.1.toList ++ [.ref 47]) o.2)) := by
  refine Eq.trans (q_if_eq 24 dX11_declare_10 rfl) (q_ite2 ?_ ?_)
  · rfl
  · refine Eq.trans (q_aload_n dX11_declare_13 rfl rfl) ?_
    exact q_call0 (as := []) (rest := [.ref 47]) dX11_declare_14 mx_inv_11_281 rfl rfl rfl ⟨Nat.le_of_ble_eq_true rfl, Nat.le_of_ble_eq_true rfl, (Nat.le_of_ble_eq_true rfl)⟩
theorem e_X11_declare_17 (v1 : Int64) (s1 : Int32) (h : mx_H)  : mx_D (9, mm_X11_declare, 17, [.ref 47, .long v1, mx_junk, mx_junk, mx_junk], [.int s1, .ref 47]) h = if s1 = 0 then mx_D (9, mm_X11_declare, 25, [.ref 47, .long v1, mx_junk, mx_junk, mx_junk], [.int 1, .ref 47]) h else (mx_D (9, mm_X11_declare, 24, [.ref 47, .long v1, mx_junk, mx_junk, mx_junk], [.ref 47]) h) := by
  refine Eq.trans (q_if_ne 24 dX11_declare_17 rfl) (q_ite2 ?_ ?_)
  · refine Eq.trans (q_iconst (x := 1) dX11_declare_20 rfl) ?_
    refine Eq.trans (q_goto 25 dX11_declare_21 rfl) ?_
    rfl
  · rfl
theorem e_X11_declare_24 (v1 : Int64) (h : mx_H)  : mx_D (9, mm_X11_declare, 24, [.ref 47, .long v1, mx_junk, mx_junk, mx_junk], [.ref 47]) h = mx_D (9, mm_X11_declare, 25, [.ref 47, .long v1, mx_junk, mx_junk, mx_junk], [.int 0, .ref 47]) h := by
  refine Eq.trans (q_iconst (x := 0) dX11_declare_24 rfl) ?_
  rfl
theorem e_X11_declare_25 (v1 : Int64) (s1 : Int32) (h : mx_H)  : mx_D (9, mm_X11_declare, 25, [.ref 47, .long v1, mx_junk, mx_junk, mx_junk], [.int s1, .ref 47]) h = (mx_C mm_X11_pass [.ref 47, .int s1] h).bind (fun o => mx_D (9, mm_X11_declare, 28, [.ref 47, .long v1, mx_junk, mx_junk, mx_junk], o.1.toList ++ []) o.2) := by
  exact q_call0 (as := [.int s1]) (rest := []) dX11_declare_25 mx_inv_11_127 rfl rfl rfl ⟨Nat.le_of_ble_eq_true rfl, Nat.le_of_ble_eq_true rfl, (Nat.le_of_ble_eq_true rfl)⟩
theorem e_X11_declare_28 (v1 : Int64) (s0 : Int32) (h : mx_H)  : mx_D (9, mm_X11_declare, 28, [.ref 47, .long v1, mx_junk, mx_junk, mx_junk], [.int s0]) h = if s0 = 0 then some (some (.int ((-1))), h) else ((mx_C mm_X11_readSort [.ref 47] h).bind (fun o => mx_D (9, mm_X11_declare, 37, [.ref 47, .long v1, mx_junk, mx_junk, mx_junk], o.1.toList ++ []) o.2)) := by
  refine Eq.trans (q_if_ne 33 dX11_declare_28 rfl) (q_ite2 ?_ ?_)
  · refine Eq.trans (q_iconst (x := (-1)) dX11_declare_31 rfl) ?_
    exact q_retI dX11_declare_32 rfl
  · refine Eq.trans (q_aload_n dX11_declare_33 rfl rfl) ?_
    exact q_call0 (as := []) (rest := []) dX11_declare_34 mx_inv_11_284 rfl rfl rfl ⟨Nat.le_of_ble_eq_true rfl, Nat.le_of_ble_eq_true rfl, (Nat.le_of_ble_eq_true rfl)⟩
theorem e_X11_declare_37 (v1 : Int64) (s0 : Int32) (h : mx_H)  : mx_D (9, mm_X11_declare, 37, [.ref 47, .long v1, mx_junk, mx_junk, mx_junk], [.int s0]) h = if s0 < 0 then mx_D (9, mm_X11_declare, 49, [.ref 47, .long v1, mx_junk, .int s0, mx_junk], []) h else ((mx_C mm_X11_ends [.ref 47] h).bind (fun o => mx_D (9, mm_X11_declare, 46, [.ref 47, .long v1, mx_junk, .int s0, mx_junk], o.1.toList ++ []) o.2)) := by
  refine Eq.trans (q_istore_n (L' := [.ref 47, .long v1, mx_junk, .int s0, mx_junk]) dX11_declare_37 (Nat.le_of_ble_eq_true rfl) rfl) ?_
  refine Eq.trans (q_iload_n dX11_declare_38 rfl) ?_
  refine Eq.trans (q_if_lt 49 dX11_declare_39 rfl) (q_ite2 ?_ ?_)
  · rfl
  · refine Eq.trans (q_aload_n dX11_declare_42 rfl rfl) ?_
    exact q_call0 (as := []) (rest := []) dX11_declare_43 mx_inv_11_287 rfl rfl rfl ⟨Nat.le_of_ble_eq_true rfl, Nat.le_of_ble_eq_true rfl, (Nat.le_of_ble_eq_true rfl)⟩
theorem e_X11_declare_46 (v1 : Int64) (v3 : Int32) (s0 : Int32) (h : mx_H)  : mx_D (9, mm_X11_declare, 46, [.ref 47, .long v1, mx_junk, .int v3, mx_junk], [.int s0]) h = if s0 = 0 then mx_D (9, mm_X11_declare, 49, [.ref 47, .long v1, mx_junk, .int v3, mx_junk], []) h else ((mx_C mm_X11_allBits [.ref 47] h).bind (fun o => mx_D (9, mm_X11_declare, 55, [.ref 47, .long v1, mx_junk, .int v3, mx_junk], o.1.toList ++ []) o.2)) := by
  refine Eq.trans (q_if_ne 51 dX11_declare_46 rfl) (q_ite2 ?_ ?_)
  · rfl
  · refine Eq.trans (q_aload_n dX11_declare_51 rfl rfl) ?_
    exact q_call0 (as := []) (rest := []) dX11_declare_52 mx_inv_11_290 rfl rfl rfl ⟨Nat.le_of_ble_eq_true rfl, Nat.le_of_ble_eq_true rfl, (Nat.le_of_ble_eq_true rfl)⟩
theorem e_X11_declare_49 (v1 : Int64) (v3 : Int32) (h : mx_H)  : mx_D (9, mm_X11_declare, 49, [.ref 47, .long v1, mx_junk, .int v3, mx_junk], []) h = some (some (.int ((-1))), h) := by
  refine Eq.trans (q_iconst (x := (-1)) dX11_declare_49 rfl) ?_
  exact q_retI dX11_declare_50 rfl
theorem e_X11_declare_55 (v1 : Int64) (v3 : Int32) (s0 : Int32) (h : mx_H)  : mx_D (9, mm_X11_declare, 55, [.ref 47, .long v1, mx_junk, .int v3, mx_junk], [.int s0]) h = (mx_C mm_X11_bitsOf [.int v3] h).bind (fun o => mx_D (9, mm_X11_declare, 59, [.ref 47, .long v1, mx_junk, .int v3, mx_junk], o.1.toList ++ [.int s0]) o.2) := by
  refine Eq.trans (q_iload_n dX11_declare_55 rfl) ?_
  exact q_call1 (as := [.int v3]) (rest := [.int s0]) dX11_declare_56 mx_inv_11_278 rfl rfl ⟨Nat.le_of_ble_eq_true rfl, Nat.le_of_ble_eq_true rfl, (Nat.le_of_ble_eq_true rfl)⟩
theorem e_X11_declare_59 (v1 : Int64) (v3 : Int32) (s0 : Int32) (s1 : Int32) (h : mx_H)  : mx_D (9, mm_X11_declare, 59, [.ref 47, .long v1, mx_junk, .int v3, mx_junk], [.int s1, .int s0]) h = if (s0 + s1) ≤ 8 then (mx_C mm_X11_make [.ref 47, .int 0, .int v3, .int ((-1)), .int ((-1)), .int ((-1)), .int (h.1 47 17), .int 0] h).bind (fun o => mx_D (9, mm_X11_declare, 83, [.ref 47, .long v1, mx_junk, .int v3, mx_junk], o.1.toList ++ []) o.2) else (some (some (.int ((-1000))), h)) := by
  refine Eq.trans (q_iadd dX11_declare_59) ?_
  refine Eq.trans (q_bipush (x := 8) dX11_declare_60 rfl) ?_
  refine Eq.trans (q_icmp_le 69 dX11_declare_62 rfl) (q_ite2 ?_ ?_)
  · refine Eq.trans (q_aload_n dX11_declare_69 rfl rfl) ?_
    refine Eq.trans (q_iconst (x := 0) dX11_declare_70 rfl) ?_
    refine Eq.trans (q_iload_n dX11_declare_71 rfl) ?_
    refine Eq.trans (q_iconst (x := (-1)) dX11_declare_72 rfl) ?_
    refine Eq.trans (q_iconst (x := (-1)) dX11_declare_73 rfl) ?_
    refine Eq.trans (q_iconst (x := (-1)) dX11_declare_74 rfl) ?_
    refine Eq.trans (q_aload_n dX11_declare_75 rfl rfl) ?_
    refine Eq.trans (q_getf dX11_declare_76 mx_fld_11_293 (gf_47_17 _)) ?_
    refine Eq.trans (q_iconst (x := 0) dX11_declare_79 rfl) ?_
    exact q_call0 (as := [.int 0, .int v3, .int ((-1)), .int ((-1)), .int ((-1)), .int (h.1 47 17), .int 0]) (rest := []) dX11_declare_80 mx_inv_11_222 rfl rfl rfl ⟨Nat.le_of_ble_eq_true rfl, Nat.le_of_ble_eq_true rfl, (Nat.le_of_ble_eq_true rfl)⟩
  · refine Eq.trans (q_sipush (x := (-1000)) dX11_declare_65 rfl) ?_
    exact q_retI dX11_declare_68 rfl
theorem e_X11_declare_83 (v1 : Int64) (v3 : Int32) (s0 : Int32) (h : mx_H)  : mx_D (9, mm_X11_declare, 83, [.ref 47, .long v1, mx_junk, .int v3, mx_junk], [.int s0]) h = (mx_C mm_X11_tooMany [.ref 47] h).bind (fun o => mx_D (9, mm_X11_declare, 89, [.ref 47, .long v1, mx_junk, .int v3, .int s0], o.1.toList ++ []) o.2) := by
  refine Eq.trans (q_istore (L' := [.ref 47, .long v1, mx_junk, .int v3, .int s0]) dX11_declare_83 (Nat.le_of_ble_eq_true rfl) rfl) ?_
  refine Eq.trans (q_aload_n dX11_declare_85 rfl rfl) ?_
  exact q_call0 (as := []) (rest := []) dX11_declare_86 mx_inv_11_296 rfl rfl rfl ⟨Nat.le_of_ble_eq_true rfl, Nat.le_of_ble_eq_true rfl, (Nat.le_of_ble_eq_true rfl)⟩
theorem e_X11_declare_89 (v1 : Int64) (v3 : Int32) (v4 : Int32) (s0 : Int32) (h : mx_H)  : mx_D (9, mm_X11_declare, 89, [.ref 47, .long v1, mx_junk, .int v3, .int v4], [.int s0]) h = if s0 = 0 then if mx_in ((mx_u h.1 47 17 ((h.1 47 17) + 1)) 47 28) 12 = true then if mx_in ((mx_u h.1 47 17 ((h.1 47 17) + 1)) 47 28) 12 = true then some (some (.int ((mx_u (mx_u (mx_u h.1 47 17 ((h.1 47 17) + 1)) 64 (((mx_u h.1 47 17 ((h.1 47 17) + 1)) 47 28).toNatClampNeg) v4) 47 28 (((mx_u (mx_u h.1 47 17 ((h.1 47 17) + 1)) 64 (((mx_u h.1 47 17 ((h.1 47 17) + 1)) 47 28).toNatClampNeg) v4) 47 28) + 1)) 47 28)), ((mx_u (mx_u (mx_u h.1 47 17 ((h.1 47 17) + 1)) 64 (((mx_u h.1 47 17 ((h.1 47 17) + 1)) 47 28).toNatClampNeg) v4) 47 28 (((mx_u (mx_u h.1 47 17 ((h.1 47 17) + 1)) 64 (((mx_u h.1 47 17 ((h.1 47 17) + 1)) 47 28).toNatClampNeg) v4) 47 28) + 1)), (mx_u h.2.1 63 (((mx_u h.1 47 17 ((h.1 47 17) + 1)) 47 28).toNatClampNeg) v1), h.2.2)) else none else none else (some (some (.int ((-1001))), h)) := by
  refine Eq.trans (q_if_eq 96 dX11_declare_89 rfl) (q_ite2 ?_ ?_)
  · refine Eq.trans (q_aload_n dX11_declare_96 rfl rfl) ?_
    refine Eq.trans (q_aload_n dX11_declare_97 rfl rfl) ?_
    refine Eq.trans (q_getf dX11_declare_98 mx_fld_11_293 (gf_47_17 _)) ?_
    refine Eq.trans (q_iconst (x := 1) dX11_declare_101 rfl) ?_
    refine Eq.trans (q_iadd dX11_declare_102) ?_
    refine Eq.trans (q_putf dX11_declare_103 mx_fld_11_293 (pf_47_17 _ _)) ?_
    refine Eq.trans (q_aload_n dX11_declare_106 rfl rfl) ?_
    refine Eq.trans (q_getf dX11_declare_107 mx_fld_11_56 (gf_47_29 _)) ?_
    refine Eq.trans (q_aload_n dX11_declare_110 rfl rfl) ?_
    refine Eq.trans (q_getf dX11_declare_111 mx_fld_11_228 (gf_47_28 _)) ?_
    refine Eq.trans (q_lload_n dX11_declare_114 rfl) ?_
    refine Eq.trans (q_st (w := 3) (by decide) dX11_declare_115 (as_63 _ _ _)) (q_ite ?_)
    refine Eq.trans (q_aload_n dX11_declare_116 rfl rfl) ?_
    refine Eq.trans (q_getf dX11_declare_117 mx_fld_11_59 (gf_47_30 _)) ?_
    refine Eq.trans (q_aload_n dX11_declare_120 rfl rfl) ?_
    refine Eq.trans (q_getf dX11_declare_121 mx_fld_11_228 (gf_47_28 _)) ?_
    refine Eq.trans (q_iload dX11_declare_124 rfl) ?_
    refine Eq.trans (q_st (w := 0) (by decide) dX11_declare_126 (as_64 _ _ _)) (q_ite ?_)
    refine Eq.trans (q_aload_n dX11_declare_127 rfl rfl) ?_
    refine Eq.trans (q_aload_n dX11_declare_128 rfl rfl) ?_
    refine Eq.trans (q_getf dX11_declare_129 mx_fld_11_228 (gf_47_28 _)) ?_
    refine Eq.trans (q_iconst (x := 1) dX11_declare_132 rfl) ?_
    refine Eq.trans (q_iadd dX11_declare_133) ?_
    refine Eq.trans (q_putf dX11_declare_134 mx_fld_11_228 (pf_47_28 _ _)) ?_
    refine Eq.trans (q_aload_n dX11_declare_137 rfl rfl) ?_
    refine Eq.trans (q_getf dX11_declare_138 mx_fld_11_228 (gf_47_28 _)) ?_
    exact q_retI dX11_declare_141 rfl
  · refine Eq.trans (q_sipush (x := (-1001)) dX11_declare_92 rfl) ?_
    exact q_retI dX11_declare_95 rfl
theorem e_X11_claim_0  (h : mx_H)  : mx_D (10, mm_X11_claim, 0, [.ref 47], []) h = (mx_C mm_X11_readTerm [.ref 47] h).bind (fun o => mx_D (10, mm_X11_claim, 4, [.ref 47], o.1.toList ++ []) o.2) := by
  refine Eq.trans (q_aload_n dX11_claim_0 rfl rfl) ?_
  exact q_call0 (as := []) (rest := []) dX11_claim_1 mx_inv_11_299 rfl rfl rfl ⟨Nat.le_of_ble_eq_true rfl, Nat.le_of_ble_eq_true rfl, (Nat.le_of_ble_eq_true rfl)⟩
theorem c_X11_claim  (h : mx_H) : mx_C mm_X11_claim [.ref 47] h = mx_D (10, mm_X11_claim, 0, [.ref 47], []) h := rfl
theorem e_X11_claim_4 (s0 : Int32) (h : mx_H)  : mx_D (10, mm_X11_claim, 4, [.ref 47], [.int s0]) h = if s0 = 0 then some (some (.int ((-1))), h) else (if mx_in (h.1 47 26) 130 = true then if (h.1 50 ((h.1 47 26).toNatClampNeg)) = 0 then (mx_C mm_X11_ends [.ref 47] h).bind (fun o => mx_D (10, mm_X11_claim, 35, [.ref 47], o.1.toList ++ []) o.2) else (some (some (.int ((-1))), ((mx_u h.1 47 7 (h.1 47 27)), h.2.1, h.2.2))) else none) := by
  refine Eq.trans (q_if_ne 9 dX11_claim_4 rfl) (q_ite2 ?_ ?_)
  · refine Eq.trans (q_iconst (x := (-1)) dX11_claim_7 rfl) ?_
    exact q_retI dX11_claim_8 rfl
  · refine Eq.trans (q_aload_n dX11_claim_9 rfl rfl) ?_
    refine Eq.trans (q_getf dX11_claim_10 mx_fld_11_16 (gf_47_11 _)) ?_
    refine Eq.trans (q_aload_n dX11_claim_13 rfl rfl) ?_
    refine Eq.trans (q_getf dX11_claim_14 mx_fld_11_262 (gf_47_26 _)) ?_
    refine Eq.trans (q_ld (w := 0) (by decide) dX11_claim_17 (al_50 _ _)) (q_ite ?_)
    refine Eq.trans (q_if_eq 31 dX11_claim_18 rfl) (q_ite2 ?_ ?_)
    · refine Eq.trans (q_aload_n dX11_claim_31 rfl rfl) ?_
      exact q_call0 (as := []) (rest := []) dX11_claim_32 mx_inv_11_287 rfl rfl rfl ⟨Nat.le_of_ble_eq_true rfl, Nat.le_of_ble_eq_true rfl, (Nat.le_of_ble_eq_true rfl)⟩
    · refine Eq.trans (q_aload_n dX11_claim_21 rfl rfl) ?_
      refine Eq.trans (q_aload_n dX11_claim_22 rfl rfl) ?_
      refine Eq.trans (q_getf dX11_claim_23 mx_fld_11_265 (gf_47_27 _)) ?_
      refine Eq.trans (q_putf dX11_claim_26 mx_fld_11_118 (pf_47_7 _ _)) ?_
      refine Eq.trans (q_iconst (x := (-1)) dX11_claim_29 rfl) ?_
      exact q_retI dX11_claim_30 rfl
theorem e_X11_claim_35 (s0 : Int32) (h : mx_H)  : mx_D (10, mm_X11_claim, 35, [.ref 47], [.int s0]) h = if s0 = 0 then some (some (.int ((-1))), h) else (if (h.1 47 31) < 12 then (mx_C mm_X11_tooMany [.ref 47] h).bind (fun o => mx_D (10, mm_X11_claim, 57, [.ref 47], o.1.toList ++ []) o.2) else (some (some (.int ((-1000))), h))) := by
  refine Eq.trans (q_if_ne 40 dX11_claim_35 rfl) (q_ite2 ?_ ?_)
  · refine Eq.trans (q_iconst (x := (-1)) dX11_claim_38 rfl) ?_
    exact q_retI dX11_claim_39 rfl
  · refine Eq.trans (q_aload_n dX11_claim_40 rfl rfl) ?_
    refine Eq.trans (q_getf dX11_claim_41 mx_fld_11_302 (gf_47_31 _)) ?_
    refine Eq.trans (q_bipush (x := 12) dX11_claim_44 rfl) ?_
    refine Eq.trans (q_icmp_lt 53 dX11_claim_46 rfl) (q_ite2 ?_ ?_)
    · refine Eq.trans (q_aload_n dX11_claim_53 rfl rfl) ?_
      exact q_call0 (as := []) (rest := []) dX11_claim_54 mx_inv_11_296 rfl rfl rfl ⟨Nat.le_of_ble_eq_true rfl, Nat.le_of_ble_eq_true rfl, (Nat.le_of_ble_eq_true rfl)⟩
    · refine Eq.trans (q_sipush (x := (-1000)) dX11_claim_49 rfl) ?_
      exact q_retI dX11_claim_52 rfl
theorem e_X11_claim_57 (s0 : Int32) (h : mx_H)  : mx_D (10, mm_X11_claim, 57, [.ref 47], [.int s0]) h = if s0 = 0 then if mx_in (h.1 47 31) 12 = true then some (some (.int ((mx_u (mx_u h.1 65 ((h.1 47 31).toNatClampNeg) (h.1 47 26)) 47 31 (((mx_u h.1 65 ((h.1 47 31).toNatClampNeg) (h.1 47 26)) 47 31) + 1)) 47 31)), ((mx_u (mx_u h.1 65 ((h.1 47 31).toNatClampNeg) (h.1 47 26)) 47 31 (((mx_u h.1 65 ((h.1 47 31).toNatClampNeg) (h.1 47 26)) 47 31) + 1)), h.2.1, h.2.2)) else none else (some (some (.int ((-1001))), h)) := by
  refine Eq.trans (q_if_eq 64 dX11_claim_57 rfl) (q_ite2 ?_ ?_)
  · refine Eq.trans (q_aload_n dX11_claim_64 rfl rfl) ?_
    refine Eq.trans (q_getf dX11_claim_65 mx_fld_11_62 (gf_47_32 _)) ?_
    refine Eq.trans (q_aload_n dX11_claim_68 rfl rfl) ?_
    refine Eq.trans (q_getf dX11_claim_69 mx_fld_11_302 (gf_47_31 _)) ?_
    refine Eq.trans (q_aload_n dX11_claim_72 rfl rfl) ?_
    refine Eq.trans (q_getf dX11_claim_73 mx_fld_11_262 (gf_47_26 _)) ?_
    refine Eq.trans (q_st (w := 0) (by decide) dX11_claim_76 (as_65 _ _ _)) (q_ite ?_)
    refine Eq.trans (q_aload_n dX11_claim_77 rfl rfl) ?_
    refine Eq.trans (q_aload_n dX11_claim_78 rfl rfl) ?_
    refine Eq.trans (q_getf dX11_claim_79 mx_fld_11_302 (gf_47_31 _)) ?_
    refine Eq.trans (q_iconst (x := 1) dX11_claim_82 rfl) ?_
    refine Eq.trans (q_iadd dX11_claim_83) ?_
    refine Eq.trans (q_putf dX11_claim_84 mx_fld_11_302 (pf_47_31 _ _)) ?_
    refine Eq.trans (q_aload_n dX11_claim_87 rfl rfl) ?_
    refine Eq.trans (q_getf dX11_claim_88 mx_fld_11_302 (gf_47_31 _)) ?_
    exact q_retI dX11_claim_91 rfl
  · refine Eq.trans (q_sipush (x := (-1001)) dX11_claim_60 rfl) ?_
    exact q_retI dX11_claim_63 rfl
theorem e_X11_open_0  (h : mx_H)  : mx_D (7, mm_X11_open, 0, [.ref 47], []) h = (mx_C mm_X11_ends [.ref 47] h).bind (fun o => mx_D (7, mm_X11_open, 4, [.ref 47], o.1.toList ++ []) o.2) := by
  refine Eq.trans (q_aload_n dX11_open_0 rfl rfl) ?_
  exact q_call0 (as := []) (rest := []) dX11_open_1 mx_inv_11_287 rfl rfl rfl ⟨Nat.le_of_ble_eq_true rfl, Nat.le_of_ble_eq_true rfl, (Nat.le_of_ble_eq_true rfl)⟩
theorem c_X11_open  (h : mx_H) : mx_C mm_X11_open [.ref 47] h = mx_D (7, mm_X11_open, 0, [.ref 47], []) h := rfl
theorem e_X11_open_4 (s0 : Int32) (h : mx_H)  : mx_D (7, mm_X11_open, 4, [.ref 47], [.int s0]) h = if s0 = 0 then some (some (.int ((-1))), h) else (if (h.1 47 33) < 4 then if mx_in (h.1 47 33) 4 = true then if mx_in ((mx_u h.1 66 ((h.1 47 33).toNatClampNeg) (h.1 47 28)) 47 33) 4 = true then some (some (.int ((mx_u (mx_u (mx_u h.1 66 ((h.1 47 33).toNatClampNeg) (h.1 47 28)) 67 (((mx_u h.1 66 ((h.1 47 33).toNatClampNeg) (h.1 47 28)) 47 33).toNatClampNeg) ((mx_u h.1 66 ((h.1 47 33).toNatClampNeg) (h.1 47 28)) 47 31)) 47 33 (((mx_u (mx_u h.1 66 ((h.1 47 33).toNatClampNeg) (h.1 47 28)) 67 (((mx_u h.1 66 ((h.1 47 33).toNatClampNeg) (h.1 47 28)) 47 33).toNatClampNeg) ((mx_u h.1 66 ((h.1 47 33).toNatClampNeg) (h.1 47 28)) 47 31)) 47 33) + 1)) 47 33)), ((mx_u (mx_u (mx_u h.1 66 ((h.1 47 33).toNatClampNeg) (h.1 47 28)) 67 (((mx_u h.1 66 ((h.1 47 33).toNatClampNeg) (h.1 47 28)) 47 33).toNatClampNeg) ((mx_u h.1 66 ((h.1 47 33).toNatClampNeg) (h.1 47 28)) 47 31)) 47 33 (((mx_u (mx_u h.1 66 ((h.1 47 33).toNatClampNeg) (h.1 47 28)) 67 (((mx_u h.1 66 ((h.1 47 33).toNatClampNeg) (h.1 47 28)) 47 33).toNatClampNeg) ((mx_u h.1 66 ((h.1 47 33).toNatClampNeg) (h.1 47 28)) 47 31)) 47 33) + 1)), h.2.1, h.2.2)) else none else none else (some (some (.int ((-1000))), h))) := by
  refine Eq.trans (q_if_ne 9 dX11_open_4 rfl) (q_ite2 ?_ ?_)
  · refine Eq.trans (q_iconst (x := (-1)) dX11_open_7 rfl) ?_
    exact q_retI dX11_open_8 rfl
  · refine Eq.trans (q_aload_n dX11_open_9 rfl rfl) ?_
    refine Eq.trans (q_getf dX11_open_10 mx_fld_11_305 (gf_47_33 _)) ?_
    refine Eq.trans (q_iconst (x := 4) dX11_open_13 rfl) ?_
    refine Eq.trans (q_icmp_lt 21 dX11_open_14 rfl) (q_ite2 ?_ ?_)
    · refine Eq.trans (q_aload_n dX11_open_21 rfl rfl) ?_
      refine Eq.trans (q_getf dX11_open_22 mx_fld_11_65 (gf_47_34 _)) ?_
      refine Eq.trans (q_aload_n dX11_open_25 rfl rfl) ?_
      refine Eq.trans (q_getf dX11_open_26 mx_fld_11_305 (gf_47_33 _)) ?_
      refine Eq.trans (q_aload_n dX11_open_29 rfl rfl) ?_
      refine Eq.trans (q_getf dX11_open_30 mx_fld_11_228 (gf_47_28 _)) ?_
      refine Eq.trans (q_st (w := 0) (by decide) dX11_open_33 (as_66 _ _ _)) (q_ite ?_)
      refine Eq.trans (q_aload_n dX11_open_34 rfl rfl) ?_
      refine Eq.trans (q_getf dX11_open_35 mx_fld_11_68 (gf_47_35 _)) ?_
      refine Eq.trans (q_aload_n dX11_open_38 rfl rfl) ?_
      refine Eq.trans (q_getf dX11_open_39 mx_fld_11_305 (gf_47_33 _)) ?_
      refine Eq.trans (q_aload_n dX11_open_42 rfl rfl) ?_
      refine Eq.trans (q_getf dX11_open_43 mx_fld_11_302 (gf_47_31 _)) ?_
      refine Eq.trans (q_st (w := 0) (by decide) dX11_open_46 (as_67 _ _ _)) (q_ite ?_)
      refine Eq.trans (q_aload_n dX11_open_47 rfl rfl) ?_
      refine Eq.trans (q_aload_n dX11_open_48 rfl rfl) ?_
      refine Eq.trans (q_getf dX11_open_49 mx_fld_11_305 (gf_47_33 _)) ?_
      refine Eq.trans (q_iconst (x := 1) dX11_open_52 rfl) ?_
      refine Eq.trans (q_iadd dX11_open_53) ?_
      refine Eq.trans (q_putf dX11_open_54 mx_fld_11_305 (pf_47_33 _ _)) ?_
      refine Eq.trans (q_aload_n dX11_open_57 rfl rfl) ?_
      refine Eq.trans (q_getf dX11_open_58 mx_fld_11_305 (gf_47_33 _)) ?_
      exact q_retI dX11_open_61 rfl
    · refine Eq.trans (q_sipush (x := (-1000)) dX11_open_17 rfl) ?_
      exact q_retI dX11_open_20 rfl
theorem e_X11_shut_0  (h : mx_H)  : mx_D (7, mm_X11_shut, 0, [.ref 47], []) h = (mx_C mm_X11_ends [.ref 47] h).bind (fun o => mx_D (7, mm_X11_shut, 4, [.ref 47], o.1.toList ++ []) o.2) := by
  refine Eq.trans (q_aload_n dX11_shut_0 rfl rfl) ?_
  exact q_call0 (as := []) (rest := []) dX11_shut_1 mx_inv_11_287 rfl rfl rfl ⟨Nat.le_of_ble_eq_true rfl, Nat.le_of_ble_eq_true rfl, (Nat.le_of_ble_eq_true rfl)⟩
theorem c_X11_shut  (h : mx_H) : mx_C mm_X11_shut [.ref 47] h = mx_D (7, mm_X11_shut, 0, [.ref 47], []) h := rfl
theorem e_X11_shut_4 (s0 : Int32) (h : mx_H)  : mx_D (7, mm_X11_shut, 4, [.ref 47], [.int s0]) h = if s0 = 0 then some (some (.int ((-1))), h) else (if (h.1 47 33) = 0 then some (some (.int ((-1000))), h) else (if mx_in ((mx_u h.1 47 33 ((h.1 47 33) - 1)) 47 33) 4 = true then if mx_in ((mx_u (mx_u h.1 47 33 ((h.1 47 33) - 1)) 47 28 ((mx_u h.1 47 33 ((h.1 47 33) - 1)) 66 (((mx_u h.1 47 33 ((h.1 47 33) - 1)) 47 33).toNatClampNeg))) 47 33) 4 = true then some (some (.int ((mx_u (mx_u (mx_u h.1 47 33 ((h.1 47 33) - 1)) 47 28 ((mx_u h.1 47 33 ((h.1 47 33) - 1)) 66 (((mx_u h.1 47 33 ((h.1 47 33) - 1)) 47 33).toNatClampNeg))) 47 31 ((mx_u (mx_u h.1 47 33 ((h.1 47 33) - 1)) 47 28 ((mx_u h.1 47 33 ((h.1 47 33) - 1)) 66 (((mx_u h.1 47 33 ((h.1 47 33) - 1)) 47 33).toNatClampNeg))) 67 (((mx_u (mx_u h.1 47 33 ((h.1 47 33) - 1)) 47 28 ((mx_u h.1 47 33 ((h.1 47 33) - 1)) 66 (((mx_u h.1 47 33 ((h.1 47 33) - 1)) 47 33).toNatClampNeg))) 47 33).toNatClampNeg))) 47 33)), ((mx_u (mx_u (mx_u h.1 47 33 ((h.1 47 33) - 1)) 47 28 ((mx_u h.1 47 33 ((h.1 47 33) - 1)) 66 (((mx_u h.1 47 33 ((h.1 47 33) - 1)) 47 33).toNatClampNeg))) 47 31 ((mx_u (mx_u h.1 47 33 ((h.1 47 33) - 1)) 47 28 ((mx_u h.1 47 33 ((h.1 47 33) - 1)) 66 (((mx_u h.1 47 33 ((h.1 47 33) - 1)) 47 33).toNatClampNeg))) 67 (((mx_u (mx_u h.1 47 33 ((h.1 47 33) - 1)) 47 28 ((mx_u h.1 47 33 ((h.1 47 33) - 1)) 66 (((mx_u h.1 47 33 ((h.1 47 33) - 1)) 47 33).toNatClampNeg))) 47 33).toNatClampNeg))), h.2.1, h.2.2)) else none else none)) := by
  refine Eq.trans (q_if_ne 9 dX11_shut_4 rfl) (q_ite2 ?_ ?_)
  · refine Eq.trans (q_iconst (x := (-1)) dX11_shut_7 rfl) ?_
    exact q_retI dX11_shut_8 rfl
  · refine Eq.trans (q_aload_n dX11_shut_9 rfl rfl) ?_
    refine Eq.trans (q_getf dX11_shut_10 mx_fld_11_305 (gf_47_33 _)) ?_
    refine Eq.trans (q_if_ne 20 dX11_shut_13 rfl) (q_ite2 ?_ ?_)
    · refine Eq.trans (q_sipush (x := (-1000)) dX11_shut_16 rfl) ?_
      exact q_retI dX11_shut_19 rfl
    · refine Eq.trans (q_aload_n dX11_shut_20 rfl rfl) ?_
      refine Eq.trans (q_aload_n dX11_shut_21 rfl rfl) ?_
      refine Eq.trans (q_getf dX11_shut_22 mx_fld_11_305 (gf_47_33 _)) ?_
      refine Eq.trans (q_iconst (x := 1) dX11_shut_25 rfl) ?_
      refine Eq.trans (q_isub dX11_shut_26) ?_
      refine Eq.trans (q_putf dX11_shut_27 mx_fld_11_305 (pf_47_33 _ _)) ?_
      refine Eq.trans (q_aload_n dX11_shut_30 rfl rfl) ?_
      refine Eq.trans (q_aload_n dX11_shut_31 rfl rfl) ?_
      refine Eq.trans (q_getf dX11_shut_32 mx_fld_11_65 (gf_47_34 _)) ?_
      refine Eq.trans (q_aload_n dX11_shut_35 rfl rfl) ?_
      refine Eq.trans (q_getf dX11_shut_36 mx_fld_11_305 (gf_47_33 _)) ?_
      refine Eq.trans (q_ld (w := 0) (by decide) dX11_shut_39 (al_66 _ _)) (q_ite ?_)
      refine Eq.trans (q_putf dX11_shut_40 mx_fld_11_228 (pf_47_28 _ _)) ?_
      refine Eq.trans (q_aload_n dX11_shut_43 rfl rfl) ?_
      refine Eq.trans (q_aload_n dX11_shut_44 rfl rfl) ?_
      refine Eq.trans (q_getf dX11_shut_45 mx_fld_11_68 (gf_47_35 _)) ?_
      refine Eq.trans (q_aload_n dX11_shut_48 rfl rfl) ?_
      refine Eq.trans (q_getf dX11_shut_49 mx_fld_11_305 (gf_47_33 _)) ?_
      refine Eq.trans (q_ld (w := 0) (by decide) dX11_shut_52 (al_67 _ _)) (q_ite ?_)
      refine Eq.trans (q_putf dX11_shut_53 mx_fld_11_302 (pf_47_31 _ _)) ?_
      refine Eq.trans (q_aload_n dX11_shut_56 rfl rfl) ?_
      refine Eq.trans (q_getf dX11_shut_57 mx_fld_11_305 (gf_47_33 _)) ?_
      exact q_retI dX11_shut_60 rfl
theorem e_X11_perform_0  (h : mx_H)  : mx_D (11, mm_X11_perform, 0, [.ref 47, mx_junk, mx_junk], []) h = (mx_C mm_X11_next [.ref 47] h).bind (fun o => mx_D (11, mm_X11_perform, 4, [.ref 47, mx_junk, mx_junk], o.1.toList ++ []) o.2) := by
  refine Eq.trans (q_aload_n dX11_perform_0 rfl rfl) ?_
  exact q_call0 (as := []) (rest := []) dX11_perform_1 mx_inv_11_124 rfl rfl rfl ⟨Nat.le_of_ble_eq_true rfl, Nat.le_of_ble_eq_true rfl, (Nat.le_of_ble_eq_true rfl)⟩
