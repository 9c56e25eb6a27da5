theorem e_X10_refusal_167 (v1 : Option Nat) (v2 : Int32) (v3 : Int32) (s0 : Int32) (h : mx_H)  : mx_D (12, mm_X10_refusal, 167, [.ref 0, mx_rf v1, .int v2, .int v3], [.int s0]) h = some (some (.int s0), h) := by
  exact q_retI dX10_refusal_167 rfl
theorem e_X10_perform_0 (v1 : Nat) (hw_v1 : 1000 ≤ v1 ∧ v1 < 1042) (h : mx_H)  : mx_D (12, mm_X10_perform, 0, [.ref 0, .ref v1], []) h = if mx_in (Int32.ofNat (v1 - 1000)) 42 = true then mx_D (12, mm_X10_perform, 8, [.ref 0, .ref v1], [.int (mx_swm ((Int32.ofNat (v1 - 1000)).toNatClampNeg))]) h else none := by
  refine Eq.trans (q_gets dX10_perform_0 mx_sta_10_170) ?_
  refine Eq.trans (q_aload_n dX10_perform_3 rfl rfl) ?_
  refine Eq.trans (q_ord dX10_perform_4 mx_inv_10_175 hw_v1 (by simp)) ?_
  refine Eq.trans (q_ld (w := 0) (by decide) dX10_perform_7 (mx_ld_2001)) (q_ite ?_)
  rfl
theorem c_X10_perform (v1 : Option Nat) (h : mx_H) : mx_C mm_X10_perform [.ref 0, mx_rf v1] h = mx_D (12, mm_X10_perform, 0, [.ref 0, mx_rf v1], []) h := (by cases v1 <;> exact rfl)
theorem e_X10_perform_8_1 (v1 : Option Nat) (h : mx_H) : mx_D (12, mm_X10_perform, 8, [.ref 0, mx_rf v1], [.int 1]) h = mx_D (12, mm_X10_perform, 36, [.ref 0, mx_rf v1], []) h := q_tsw 36 dX10_perform_8 rfl rfl
theorem e_X10_perform_8_2 (v1 : Option Nat) (h : mx_H) : mx_D (12, mm_X10_perform, 8, [.ref 0, mx_rf v1], [.int 2]) h = mx_D (12, mm_X10_perform, 82, [.ref 0, mx_rf v1], []) h := q_tsw 82 dX10_perform_8 rfl rfl
theorem e_X10_perform_8_3 (v1 : Option Nat) (h : mx_H) : mx_D (12, mm_X10_perform, 8, [.ref 0, mx_rf v1], [.int 3]) h = mx_D (12, mm_X10_perform, 97, [.ref 0, mx_rf v1], []) h := q_tsw 97 dX10_perform_8 rfl rfl
theorem e_X10_perform_8_d (v1 : Option Nat) (x : Int32) (hx : x.toInt < 1 ∨ 3 < x.toInt) (h : mx_H) : mx_D (12, mm_X10_perform, 8, [.ref 0, mx_rf v1], [.int x]) h = mx_D (12, mm_X10_perform, 105, [.ref 0, mx_rf v1], []) h := q_tsw 105 dX10_perform_8 (if_pos hx) rfl
theorem e_X10_perform_36 (v1 : Option Nat) (h : mx_H)  : mx_D (12, mm_X10_perform, 36, [.ref 0, mx_rf v1], []) h = (mx_C mm_X7_addConstant [.ref 6, .int (h.1 11 3), .int (h.1 18 6)] h).bind (fun o => mx_D (12, mm_X10_perform, 68, [.ref 0, mx_rf v1], o.1.toList ++ [.int (h.1 18 5), .ref 11]) o.2) := by
  refine Eq.trans (q_aload_n dX10_perform_36 rfl rfl) ?_
  refine Eq.trans (q_getf dX10_perform_37 mx_fld_10_26 (gf_0_2 _)) ?_
  refine Eq.trans (q_aload_n dX10_perform_40 rfl rfl) ?_
  refine Eq.trans (q_getf dX10_perform_41 mx_fld_10_35 (gf_0_3 _)) ?_
  refine Eq.trans (q_getf dX10_perform_44 mx_fld_10_189 (gf_18_5 _)) ?_
  refine Eq.trans (q_aload_n dX10_perform_47 rfl rfl) ?_
  refine Eq.trans (q_getf dX10_perform_48 mx_fld_10_19 (gf_0_1 _)) ?_
  refine Eq.trans (q_aload_n dX10_perform_51 rfl rfl) ?_
  refine Eq.trans (q_getf dX10_perform_52 mx_fld_10_26 (gf_0_2 _)) ?_
  refine Eq.trans (q_getf dX10_perform_55 mx_fld_10_180 (gf_11_3 _)) ?_
  refine Eq.trans (q_aload_n dX10_perform_58 rfl rfl) ?_
  refine Eq.trans (q_getf dX10_perform_59 mx_fld_10_35 (gf_0_3 _)) ?_
  refine Eq.trans (q_getf dX10_perform_62 mx_fld_10_183 (gf_18_6 _)) ?_
  exact q_call0 (as := [.int (h.1 11 3), .int (h.1 18 6)]) (rest := [.int (h.1 18 5), .ref 11]) dX10_perform_65 mx_inv_10_192 rfl rfl rfl ⟨Nat.le_of_ble_eq_true rfl, Nat.le_of_ble_eq_true rfl, (Nat.le_of_ble_eq_true rfl)⟩
theorem e_X10_perform_68 (v1 : Option Nat) (s1 : Int32) (s2 : Int32) (h : mx_H)  : mx_D (12, mm_X10_perform, 68, [.ref 0, mx_rf v1], [.int s2, .int s1, .ref 11]) h = (mx_C mm_X10_bitsOf [.int (h.1 18 6)] h).bind (fun o => mx_D (12, mm_X10_perform, 78, [.ref 0, mx_rf v1], o.1.toList ++ [.int s2, .int s1, .ref 11]) o.2) := by
  refine Eq.trans (q_aload_n dX10_perform_68 rfl rfl) ?_
  refine Eq.trans (q_getf dX10_perform_69 mx_fld_10_35 (gf_0_3 _)) ?_
  refine Eq.trans (q_getf dX10_perform_72 mx_fld_10_183 (gf_18_6 _)) ?_
  exact q_call1 (as := [.int (h.1 18 6)]) (rest := [.int s2, .int s1, .ref 11]) dX10_perform_75 mx_inv_10_146 rfl rfl ⟨Nat.le_of_ble_eq_true rfl, Nat.le_of_ble_eq_true rfl, (Nat.le_of_ble_eq_true rfl)⟩
theorem e_X10_perform_78 (v1 : Option Nat) (s1 : Int32) (s2 : Int32) (s3 : Int32) (h : mx_H)  : mx_D (12, mm_X10_perform, 78, [.ref 0, mx_rf v1], [.int s3, .int s2, .int s1, .ref 11]) h = (mx_C mm_X5_declare [.ref 11, .int s1, .int s2, .int s3] h).bind (fun o => mx_D (12, mm_X10_perform, 81, [.ref 0, mx_rf v1], o.1.toList ++ []) o.2) := by
  exact q_call0 (as := [.int s1, .int s2, .int s3]) (rest := []) dX10_perform_78 mx_inv_10_195 rfl rfl rfl ⟨Nat.le_of_ble_eq_true rfl, Nat.le_of_ble_eq_true rfl, (Nat.le_of_ble_eq_true rfl)⟩
theorem e_X10_perform_81 (v1 : Option Nat) (s0 : Int32) (h : mx_H)  : mx_D (12, mm_X10_perform, 81, [.ref 0, mx_rf v1], [.int s0]) h = some (some (.int s0), h) := by
  exact q_retI dX10_perform_81 rfl
theorem e_X10_perform_82 (v1 : Option Nat) (h : mx_H)  : mx_D (12, mm_X10_perform, 82, [.ref 0, mx_rf v1], []) h = (mx_C mm_X5_claim [.ref 11, .int (h.1 18 7)] h).bind (fun o => mx_D (12, mm_X10_perform, 96, [.ref 0, mx_rf v1], o.1.toList ++ []) o.2) := by
  refine Eq.trans (q_aload_n dX10_perform_82 rfl rfl) ?_
  refine Eq.trans (q_getf dX10_perform_83 mx_fld_10_26 (gf_0_2 _)) ?_
  refine Eq.trans (q_aload_n dX10_perform_86 rfl rfl) ?_
  refine Eq.trans (q_getf dX10_perform_87 mx_fld_10_35 (gf_0_3 _)) ?_
  refine Eq.trans (q_getf dX10_perform_90 mx_fld_10_199 (gf_18_7 _)) ?_
  exact q_call0 (as := [.int (h.1 18 7)]) (rest := []) dX10_perform_93 mx_inv_10_202 rfl rfl rfl ⟨Nat.le_of_ble_eq_true rfl, Nat.le_of_ble_eq_true rfl, (Nat.le_of_ble_eq_true rfl)⟩
theorem e_X10_perform_96 (v1 : Option Nat) (s0 : Int32) (h : mx_H)  : mx_D (12, mm_X10_perform, 96, [.ref 0, mx_rf v1], [.int s0]) h = some (some (.int s0), h) := by
  exact q_retI dX10_perform_96 rfl
theorem e_X10_perform_97 (v1 : Option Nat) (h : mx_H)  : mx_D (12, mm_X10_perform, 97, [.ref 0, mx_rf v1], []) h = (mx_C mm_X5_open [.ref 11] h).bind (fun o => mx_D (12, mm_X10_perform, 104, [.ref 0, mx_rf v1], o.1.toList ++ []) o.2) := by
  refine Eq.trans (q_aload_n dX10_perform_97 rfl rfl) ?_
  refine Eq.trans (q_getf dX10_perform_98 mx_fld_10_26 (gf_0_2 _)) ?_
  exact q_call0 (as := []) (rest := []) dX10_perform_101 mx_inv_10_205 rfl rfl rfl ⟨Nat.le_of_ble_eq_true rfl, Nat.le_of_ble_eq_true rfl, (Nat.le_of_ble_eq_true rfl)⟩
theorem e_X10_perform_104 (v1 : Option Nat) (s0 : Int32) (h : mx_H)  : mx_D (12, mm_X10_perform, 104, [.ref 0, mx_rf v1], [.int s0]) h = some (some (.int s0), h) := by
  exact q_retI dX10_perform_104 rfl
theorem e_X10_perform_105 (v1 : Option Nat) (h : mx_H)  : mx_D (12, mm_X10_perform, 105, [.ref 0, mx_rf v1], []) h = (mx_C mm_X5_close [.ref 11] h).bind (fun o => mx_D (12, mm_X10_perform, 112, [.ref 0, mx_rf v1], o.1.toList ++ []) o.2) := by
  refine Eq.trans (q_aload_n dX10_perform_105 rfl rfl) ?_
  refine Eq.trans (q_getf dX10_perform_106 mx_fld_10_26 (gf_0_2 _)) ?_
  exact q_call0 (as := []) (rest := []) dX10_perform_109 mx_inv_10_208 rfl rfl rfl ⟨Nat.le_of_ble_eq_true rfl, Nat.le_of_ble_eq_true rfl, (Nat.le_of_ble_eq_true rfl)⟩
theorem e_X10_perform_112 (v1 : Option Nat) (s0 : Int32) (h : mx_H)  : mx_D (12, mm_X10_perform, 112, [.ref 0, mx_rf v1], [.int s0]) h = some (some (.int s0), h) := by
  exact q_retI dX10_perform_112 rfl
theorem e_X10_gatherRoots_0  (h : mx_H)  : mx_D (2, mm_X10_gatherRoots, 0, [.ref 0, mx_junk], []) h = mx_D (2, mm_X10_gatherRoots, 2, [.ref 0, .int 0], []) h := by
  refine Eq.trans (q_iconst (x := 0) dX10_gatherRoots_0 rfl) ?_
  refine Eq.trans (q_istore_n (L' := [.ref 0, .int 0]) dX10_gatherRoots_1 (Nat.le_of_ble_eq_true rfl) rfl) ?_
  rfl
theorem c_X10_gatherRoots  (h : mx_H) : mx_C mm_X10_gatherRoots [.ref 0] h = mx_D (2, mm_X10_gatherRoots, 0, [.ref 0, mx_junk], []) h := rfl
theorem e_X10_gatherRoots_2 (v1 : Int32) (h : mx_H)  : mx_D (2, mm_X10_gatherRoots, 2, [.ref 0, .int v1], []) h = if (h.1 11 5) ≤ v1 then some (none, h) else (if mx_in v1 12 = true then (mx_C mm_X1_bitOf [.ref 28, .int (h.1 14 v1.toNatClampNeg), .int 0] h).bind (fun o => mx_D (2, mm_X10_gatherRoots, 35, [.ref 0, .int v1], o.1.toList ++ [.int v1, .ref 46]) o.2) else none) := by
  refine Eq.trans (q_iload_n dX10_gatherRoots_2 rfl) ?_
  refine Eq.trans (q_aload_n dX10_gatherRoots_3 rfl rfl) ?_
  refine Eq.trans (q_getf dX10_gatherRoots_4 mx_fld_10_26 (gf_0_2 _)) ?_
  refine Eq.trans (q_getf dX10_gatherRoots_7 mx_fld_10_110 (gf_11_5 _)) ?_
  refine Eq.trans (q_icmp_ge 42 dX10_gatherRoots_10 rfl) (q_ite2 ?_ ?_)
  · exact q_retV dX10_gatherRoots_42 rfl
  · refine Eq.trans (q_aload_n dX10_gatherRoots_13 rfl rfl) ?_
    refine Eq.trans (q_getf dX10_gatherRoots_14 mx_fld_10_64 (gf_0_7 _)) ?_
    refine Eq.trans (q_iload_n dX10_gatherRoots_17 rfl) ?_
    refine Eq.trans (q_aload_n dX10_gatherRoots_18 rfl rfl) ?_
    refine Eq.trans (q_getf dX10_gatherRoots_19 mx_fld_10_51 (gf_0_5 _)) ?_
    refine Eq.trans (q_aload_n dX10_gatherRoots_22 rfl rfl) ?_
    refine Eq.trans (q_getf dX10_gatherRoots_23 mx_fld_10_26 (gf_0_2 _)) ?_
    refine Eq.trans (q_getf dX10_gatherRoots_26 mx_fld_10_156 (gf_11_4 _)) ?_
    refine Eq.trans (q_iload_n dX10_gatherRoots_29 rfl) ?_
    refine Eq.trans (q_ld (w := 0) (by decide) dX10_gatherRoots_30 (al_14 _ _)) (q_ite ?_)
    refine Eq.trans (q_iconst (x := 0) dX10_gatherRoots_31 rfl) ?_
    exact q_call0 (as := [.int (h.1 14 v1.toNatClampNeg), .int 0]) (rest := [.int v1, .ref 46]) dX10_gatherRoots_32 mx_inv_10_159 rfl rfl rfl ⟨Nat.le_of_ble_eq_true rfl, Nat.le_of_ble_eq_true rfl, (Nat.le_of_ble_eq_true rfl)⟩
theorem e_X10_gatherRoots_35 (v1 : Int32) (s1 : Int32) (s2 : Int32) (h : mx_H)  : mx_D (2, mm_X10_gatherRoots, 35, [.ref 0, .int v1], [.int s2, .int s1, .ref 46]) h = if mx_in s1 12 = true then mx_D (2, mm_X10_gatherRoots, 2, [.ref 0, .int (v1 + 1)], []) ((mx_u h.1 46 s1.toNatClampNeg s2), h.2.1, h.2.2) else none := by
  refine Eq.trans (q_st (w := 0) (by decide) dX10_gatherRoots_35 (as_46 _ _ _)) (q_ite ?_)
  refine Eq.trans (q_iinc (x' := 1) (L' := [.ref 0, .int (v1 + 1)]) dX10_gatherRoots_36 rfl rfl rfl) ?_
  refine Eq.trans (q_goto 2 dX10_gatherRoots_39 rfl) ?_
  rfl
theorem e_X10_orderInputs_0  (h : mx_H)  : mx_D (3, mm_X10_orderInputs, 0, [.ref 0, mx_junk, mx_junk, mx_junk, mx_junk], []) h = (mx_C mm_X6_forgetOrder [.ref 33] h).bind (fun o => mx_D (3, mm_X10_orderInputs, 7, [.ref 0, mx_junk, mx_junk, mx_junk, mx_junk], o.1.toList ++ []) o.2) := by
  refine Eq.trans (q_aload_n dX10_orderInputs_0 rfl rfl) ?_
  refine Eq.trans (q_getf dX10_orderInputs_1 mx_fld_10_60 (gf_0_6 _)) ?_
  exact q_call0 (as := []) (rest := []) dX10_orderInputs_4 mx_inv_10_211 rfl rfl rfl ⟨Nat.le_of_ble_eq_true rfl, Nat.le_of_ble_eq_true rfl, (Nat.le_of_ble_eq_true rfl)⟩
theorem c_X10_orderInputs  (h : mx_H) : mx_C mm_X10_orderInputs [.ref 0] h = mx_D (3, mm_X10_orderInputs, 0, [.ref 0, mx_junk, mx_junk, mx_junk, mx_junk], []) h := rfl
theorem e_X10_orderInputs_7  (h : mx_H)  : mx_D (3, mm_X10_orderInputs, 7, [.ref 0, mx_junk, mx_junk, mx_junk, mx_junk], []) h = mx_D (3, mm_X10_orderInputs, 9, [.ref 0, .int 0, mx_junk, mx_junk, mx_junk], []) h := by
  refine Eq.trans (q_iconst (x := 0) dX10_orderInputs_7 rfl) ?_
  refine Eq.trans (q_istore_n (L' := [.ref 0, .int 0, mx_junk, mx_junk, mx_junk]) dX10_orderInputs_8 (Nat.le_of_ble_eq_true rfl) rfl) ?_
  rfl
theorem e_X10_orderInputs_9 (v1 : Int32) (v2 : Value) (v3 : Value) (v4 : Value) (h : mx_H)  : mx_D (3, mm_X10_orderInputs, 9, [.ref 0, .int v1, v2, v3, v4], []) h = if (h.1 11 2) ≤ v1 then some (none, h) else (if mx_in v1 8 = true then (mx_C mm_X7_numberOf [.ref 6, .int (h.1 13 v1.toNatClampNeg), .int 0] h).bind (fun o => mx_D (3, mm_X10_orderInputs, 39, [.ref 0, .int v1, .int (h.1 13 v1.toNatClampNeg), v3, v4], o.1.toList ++ []) o.2) else none) := by
  refine Eq.trans (q_iload_n dX10_orderInputs_9 rfl) ?_
  refine Eq.trans (q_aload_n dX10_orderInputs_10 rfl rfl) ?_
  refine Eq.trans (q_getf dX10_orderInputs_11 mx_fld_10_26 (gf_0_2 _)) ?_
  refine Eq.trans (q_getf dX10_orderInputs_14 mx_fld_10_165 (gf_11_2 _)) ?_
  refine Eq.trans (q_icmp_ge 85 dX10_orderInputs_17 rfl) (q_ite2 ?_ ?_)
  · exact q_retV dX10_orderInputs_85 rfl
  · refine Eq.trans (q_aload_n dX10_orderInputs_20 rfl rfl) ?_
    refine Eq.trans (q_getf dX10_orderInputs_21 mx_fld_10_26 (gf_0_2 _)) ?_
    refine Eq.trans (q_getf dX10_orderInputs_24 mx_fld_10_140 (gf_11_1 _)) ?_
    refine Eq.trans (q_iload_n dX10_orderInputs_27 rfl) ?_
    refine Eq.trans (q_ld (w := 0) (by decide) dX10_orderInputs_28 (al_13 _ _)) (q_ite ?_)
    refine Eq.trans (q_istore_n (L' := [.ref 0, .int v1, .int (h.1 13 v1.toNatClampNeg), v3, v4]) dX10_orderInputs_29 (Nat.le_of_ble_eq_true rfl) rfl) ?_
    refine Eq.trans (q_aload_n dX10_orderInputs_30 rfl rfl) ?_
    refine Eq.trans (q_getf dX10_orderInputs_31 mx_fld_10_19 (gf_0_1 _)) ?_
    refine Eq.trans (q_iload_n dX10_orderInputs_34 rfl) ?_
    refine Eq.trans (q_iconst (x := 0) dX10_orderInputs_35 rfl) ?_
    exact q_call0 (as := [.int (h.1 13 v1.toNatClampNeg), .int 0]) (rest := []) dX10_orderInputs_36 mx_inv_10_149 rfl rfl rfl ⟨Nat.le_of_ble_eq_true rfl, Nat.le_of_ble_eq_true rfl, (Nat.le_of_ble_eq_true rfl)⟩
theorem e_X10_orderInputs_39 (v1 : Int32) (v2 : Int32) (v3 : Value) (v4 : Value) (s0 : Int32) (h : mx_H)  : mx_D (3, mm_X10_orderInputs, 39, [.ref 0, .int v1, .int v2, v3, v4], [.int s0]) h = (mx_C mm_X7_sortOf [.ref 6, .int v2] h).bind (fun o => mx_D (3, mm_X10_orderInputs, 48, [.ref 0, .int v1, .int v2, .int s0, v4], o.1.toList ++ []) o.2) := by
  refine Eq.trans (q_istore_n (L' := [.ref 0, .int v1, .int v2, .int s0, v4]) dX10_orderInputs_39 (Nat.le_of_ble_eq_true rfl) rfl) ?_
  refine Eq.trans (q_aload_n dX10_orderInputs_40 rfl rfl) ?_
  refine Eq.trans (q_getf dX10_orderInputs_41 mx_fld_10_19 (gf_0_1 _)) ?_
  refine Eq.trans (q_iload_n dX10_orderInputs_44 rfl) ?_
  exact q_call0 (as := [.int v2]) (rest := []) dX10_orderInputs_45 mx_inv_10_143 rfl rfl rfl ⟨Nat.le_of_ble_eq_true rfl, Nat.le_of_ble_eq_true rfl, (Nat.le_of_ble_eq_true rfl)⟩
theorem e_X10_orderInputs_48 (v1 : Int32) (v2 : Int32) (v3 : Int32) (v4 : Value) (s0 : Int32) (h : mx_H)  : mx_D (3, mm_X10_orderInputs, 48, [.ref 0, .int v1, .int v2, .int v3, v4], [.int s0]) h = (mx_C mm_X10_bitsOf [.int s0] h).bind (fun o => mx_D (3, mm_X10_orderInputs, 51, [.ref 0, .int v1, .int v2, .int v3, v4], o.1.toList ++ []) o.2) := by
  exact q_call1 (as := [.int s0]) (rest := []) dX10_orderInputs_48 mx_inv_10_146 rfl rfl ⟨Nat.le_of_ble_eq_true rfl, Nat.le_of_ble_eq_true rfl, (Nat.le_of_ble_eq_true rfl)⟩
theorem e_X10_orderInputs_51 (v1 : Int32) (v2 : Int32) (v3 : Int32) (v4 : Value) (s0 : Int32) (h : mx_H)  : mx_D (3, mm_X10_orderInputs, 51, [.ref 0, .int v1, .int v2, .int v3, v4], [.int s0]) h = mx_D (3, mm_X10_orderInputs, 55, [.ref 0, .int v1, .int v2, .int v3, .int (s0 - 1)], []) h := by
  refine Eq.trans (q_iconst (x := 1) dX10_orderInputs_51 rfl) ?_
  refine Eq.trans (q_isub dX10_orderInputs_52) ?_
  refine Eq.trans (q_istore (L' := [.ref 0, .int v1, .int v2, .int v3, .int (s0 - 1)]) dX10_orderInputs_53 (Nat.le_of_ble_eq_true rfl) rfl) ?_
  rfl
theorem e_X10_orderInputs_55 (v1 : Int32) (v2 : Int32) (v3 : Int32) (v4 : Int32) (h : mx_H)  : mx_D (3, mm_X10_orderInputs, 55, [.ref 0, .int v1, .int v2, .int v3, .int v4], []) h = if v4 < 0 then mx_D (3, mm_X10_orderInputs, 9, [.ref 0, .int (v1 + 1), .int v2, .int v3, .int v4], []) h else ((mx_C mm_X6_decideNext [.ref 33, .int ((1 + v3) + v4)] h).bind (fun o => mx_D (3, mm_X10_orderInputs, 73, [.ref 0, .int v1, .int v2, .int v3, .int v4], o.1.toList ++ []) o.2)) := by
  refine Eq.trans (q_iload dX10_orderInputs_55 rfl) ?_
  refine Eq.trans (q_if_lt 79 dX10_orderInputs_57 rfl) (q_ite2 ?_ ?_)
  · refine Eq.trans (q_iinc (x' := 1) (L' := [.ref 0, .int (v1 + 1), .int v2, .int v3, .int v4]) dX10_orderInputs_79 rfl rfl rfl) ?_
    refine Eq.trans (q_goto 9 dX10_orderInputs_82 rfl) ?_
    rfl
  · refine Eq.trans (q_aload_n dX10_orderInputs_60 rfl rfl) ?_
    refine Eq.trans (q_getf dX10_orderInputs_61 mx_fld_10_60 (gf_0_6 _)) ?_
    refine Eq.trans (q_iconst (x := 1) dX10_orderInputs_64 rfl) ?_
    refine Eq.trans (q_iload_n dX10_orderInputs_65 rfl) ?_
    refine Eq.trans (q_iadd dX10_orderInputs_66) ?_
    refine Eq.trans (q_iload dX10_orderInputs_67 rfl) ?_
    refine Eq.trans (q_iadd dX10_orderInputs_69) ?_
    exact q_call0 (as := [.int ((1 + v3) + v4)]) (rest := []) dX10_orderInputs_70 mx_inv_10_214 rfl rfl rfl ⟨Nat.le_of_ble_eq_true rfl, Nat.le_of_ble_eq_true rfl, (Nat.le_of_ble_eq_true rfl)⟩
theorem e_X10_orderInputs_73 (v1 : Int32) (v2 : Int32) (v3 : Int32) (v4 : Int32) (h : mx_H)  : mx_D (3, mm_X10_orderInputs, 73, [.ref 0, .int v1, .int v2, .int v3, .int v4], []) h = mx_D (3, mm_X10_orderInputs, 55, [.ref 0, .int v1, .int v2, .int v3, .int (v4 + (-1))], []) h := by
  refine Eq.trans (q_iinc (x' := (-1)) (L' := [.ref 0, .int v1, .int v2, .int v3, .int (v4 + (-1))]) dX10_orderInputs_73 rfl rfl rfl) ?_
  refine Eq.trans (q_goto 55 dX10_orderInputs_76 rfl) ?_
  rfl
theorem e_X10_coreOf_0 (v1 : Int32) (h : mx_H)  : mx_D (15, mm_X10_coreOf, 0, [.ref 0, .int v1, mx_junk, mx_junk, mx_junk], []) h = mx_D (15, mm_X10_coreOf, 4, [.ref 0, .int v1, .int v1, .int 0, mx_junk], []) h := by
  refine Eq.trans (q_iload_n dX10_coreOf_0 rfl) ?_
  refine Eq.trans (q_istore_n (L' := [.ref 0, .int v1, .int v1, mx_junk, mx_junk]) dX10_coreOf_1 (Nat.le_of_ble_eq_true rfl) rfl) ?_
  refine Eq.trans (q_iconst (x := 0) dX10_coreOf_2 rfl) ?_
  refine Eq.trans (q_istore_n (L' := [.ref 0, .int v1, .int v1, .int 0, mx_junk]) dX10_coreOf_3 (Nat.le_of_ble_eq_true rfl) rfl) ?_
  rfl
theorem c_X10_coreOf (v1 : Int32) (h : mx_H) : mx_C mm_X10_coreOf [.ref 0, .int v1] h = mx_D (15, mm_X10_coreOf, 0, [.ref 0, .int v1, mx_junk, mx_junk, mx_junk], []) h := rfl
theorem e_X10_coreOf_4 (v1 : Int32) (v2 : Int32) (v3 : Int32) (v4 : Value) (h : mx_H)  : mx_D (15, mm_X10_coreOf, 4, [.ref 0, .int v1, .int v2, .int v3, v4], []) h = if (h.1 11 5) ≤ v3 then some (some (.int v2), h) else ((mx_C mm_X6_canHold [.ref 33, .ref 46, .int (v2 &&& ((1 <<< (v3 &&& 31)) ^^^ ((-1))))] h).bind (fun o => mx_D (15, mm_X10_coreOf, 37, [.ref 0, .int v1, .int v2, .int v3, .int (v2 &&& ((1 <<< (v3 &&& 31)) ^^^ ((-1))))], o.1.toList ++ []) o.2)) := by
  refine Eq.trans (q_iload_n dX10_coreOf_4 rfl) ?_
  refine Eq.trans (q_aload_n dX10_coreOf_5 rfl rfl) ?_
  refine Eq.trans (q_getf dX10_coreOf_6 mx_fld_10_26 (gf_0_2 _)) ?_
  refine Eq.trans (q_getf dX10_coreOf_9 mx_fld_10_110 (gf_11_5 _)) ?_
  refine Eq.trans (q_icmp_ge 49 dX10_coreOf_12 rfl) (q_ite2 ?_ ?_)
  · refine Eq.trans (q_iload_n dX10_coreOf_49 rfl) ?_
    exact q_retI dX10_coreOf_50 rfl
  · refine Eq.trans (q_iload_n dX10_coreOf_15 rfl) ?_
    refine Eq.trans (q_iconst (x := 1) dX10_coreOf_16 rfl) ?_
    refine Eq.trans (q_iload_n dX10_coreOf_17 rfl) ?_
    refine Eq.trans (q_ishl dX10_coreOf_18) ?_
    refine Eq.trans (q_iconst (x := (-1)) dX10_coreOf_19 rfl) ?_
    refine Eq.trans (q_ixor dX10_coreOf_20) ?_
    refine Eq.trans (q_iand dX10_coreOf_21) ?_
    refine Eq.trans (q_istore (L' := [.ref 0, .int v1, .int v2, .int v3, .int (v2 &&& ((1 <<< (v3 &&& 31)) ^^^ ((-1))))]) dX10_coreOf_22 (Nat.le_of_ble_eq_true rfl) rfl) ?_
    refine Eq.trans (q_aload_n dX10_coreOf_24 rfl rfl) ?_
    refine Eq.trans (q_getf dX10_coreOf_25 mx_fld_10_60 (gf_0_6 _)) ?_
    refine Eq.trans (q_aload_n dX10_coreOf_28 rfl rfl) ?_
    refine Eq.trans (q_getf dX10_coreOf_29 mx_fld_10_64 (gf_0_7 _)) ?_
    refine Eq.trans (q_iload dX10_coreOf_32 rfl) ?_
    exact q_call0 (as := [.ref 46, .int (v2 &&& ((1 <<< (v3 &&& 31)) ^^^ ((-1))))]) (rest := []) dX10_coreOf_34 mx_inv_10_119 rfl rfl rfl ⟨Nat.le_of_ble_eq_true rfl, Nat.le_of_ble_eq_true rfl, (Nat.le_of_ble_eq_true rfl)⟩
theorem e_X10_coreOf_37 (v1 : Int32) (v2 : Int32) (v3 : Int32) (v4 : Int32) (s0 : Int32) (h : mx_H)  : mx_D (15, mm_X10_coreOf, 37, [.ref 0, .int v1, .int v2, .int v3, .int v4], [.int s0]) h = if s0 = 0 then mx_D (15, mm_X10_coreOf, 43, [.ref 0, .int v1, .int v4, .int v3, .int v4], []) h else (mx_D (15, mm_X10_coreOf, 43, [.ref 0, .int v1, .int v2, .int v3, .int v4], []) h) := by
  refine Eq.trans (q_if_ne 43 dX10_coreOf_37 rfl) (q_ite2 ?_ ?_)
  · refine Eq.trans (q_iload dX10_coreOf_40 rfl) ?_
    refine Eq.trans (q_istore_n (L' := [.ref 0, .int v1, .int v4, .int v3, .int v4]) dX10_coreOf_42 (Nat.le_of_ble_eq_true rfl) rfl) ?_
    rfl
  · rfl
theorem e_X10_coreOf_43 (v1 : Int32) (v2 : Int32) (v3 : Int32) (v4 : Int32) (h : mx_H)  : mx_D (15, mm_X10_coreOf, 43, [.ref 0, .int v1, .int v2, .int v3, .int v4], []) h = mx_D (15, mm_X10_coreOf, 4, [.ref 0, .int v1, .int v2, .int (v3 + 1), .int v4], []) h := by
  refine Eq.trans (q_iinc (x' := 1) (L' := [.ref 0, .int v1, .int v2, .int (v3 + 1), .int v4]) dX10_coreOf_43 rfl rfl rfl) ?_
  refine Eq.trans (q_goto 4 dX10_coreOf_46 rfl) ?_
  rfl
theorem e_X10_bitsOf_0 (v0 : Int32) (h : mx_H)  : mx_D (2, mm_X10_bitsOf, 0, [.int v0], []) h = if v0 = 0 then some (some (.int 1), h) else ((mx_C mm_X10_isWord [.int v0] h).bind (fun o => mx_D (2, mm_X10_bitsOf, 10, [.int v0], o.1.toList ++ []) o.2)) := by
  refine Eq.trans (q_iload_n dX10_bitsOf_0 rfl) ?_
  refine Eq.trans (q_if_ne 6 dX10_bitsOf_1 rfl) (q_ite2 ?_ ?_)
  · refine Eq.trans (q_iconst (x := 1) dX10_bitsOf_4 rfl) ?_
    exact q_retI dX10_bitsOf_5 rfl
  · refine Eq.trans (q_iload_n dX10_bitsOf_6 rfl) ?_
    exact q_call1 (as := [.int v0]) (rest := []) dX10_bitsOf_7 mx_inv_10_217 rfl rfl ⟨Nat.le_of_ble_eq_true rfl, Nat.le_of_ble_eq_true rfl, (Nat.le_of_ble_eq_true rfl)⟩
theorem c_X10_bitsOf (v0 : Int32) (h : mx_H) : mx_C mm_X10_bitsOf [.int v0] h = mx_D (2, mm_X10_bitsOf, 0, [.int v0], []) h := rfl
theorem e_X10_bitsOf_10 (v0 : Int32) (s0 : Int32) (h : mx_H)  : mx_D (2, mm_X10_bitsOf, 10, [.int v0], [.int s0]) h = if s0 = 0 then mx_D (2, mm_X10_bitsOf, 22, [.int v0], [.int (2 * (v0 - 4))]) h else (mx_D (2, mm_X10_bitsOf, 22, [.int v0], [.int v0]) h) := by
  refine Eq.trans (q_if_eq 17 dX10_bitsOf_10 rfl) (q_ite2 ?_ ?_)
  · refine Eq.trans (q_iconst (x := 2) dX10_bitsOf_17 rfl) ?_
    refine Eq.trans (q_iload_n dX10_bitsOf_18 rfl) ?_
    refine Eq.trans (q_iconst (x := 4) dX10_bitsOf_19 rfl) ?_
    refine Eq.trans (q_isub dX10_bitsOf_20) ?_
    refine Eq.trans (q_imul dX10_bitsOf_21) ?_
    rfl
  · refine Eq.trans (q_iload_n dX10_bitsOf_13 rfl) ?_
    refine Eq.trans (q_goto 22 dX10_bitsOf_14 rfl) ?_
    rfl
theorem e_X10_bitsOf_22 (v0 : Int32) (s0 : Int32) (h : mx_H)  : mx_D (2, mm_X10_bitsOf, 22, [.int v0], [.int s0]) h = some (some (.int s0), h) := by
  exact q_retI dX10_bitsOf_22 rfl
theorem e_X10_isWord_0 (v0 : Int32) (h : mx_H)  : mx_D (1, mm_X10_isWord, 0, [.int v0], []) h = if v0 ≤ 0 then mx_D (1, mm_X10_isWord, 13, [.int v0], []) h else (if 4 < v0 then mx_D (1, mm_X10_isWord, 13, [.int v0], []) h else (mx_D (1, mm_X10_isWord, 14, [.int v0], [.int 1]) h)) := by
  refine Eq.trans (q_iload_n dX10_isWord_0 rfl) ?_
  refine Eq.trans (q_if_le 13 dX10_isWord_1 rfl) (q_ite2 ?_ ?_)
  · rfl
  · refine Eq.trans (q_iload_n dX10_isWord_4 rfl) ?_
    refine Eq.trans (q_iconst (x := 4) dX10_isWord_5 rfl) ?_
    refine Eq.trans (q_icmp_gt 13 dX10_isWord_6 rfl) (q_ite2 ?_ ?_)
    · rfl
    · refine Eq.trans (q_iconst (x := 1) dX10_isWord_9 rfl) ?_
      refine Eq.trans (q_goto 14 dX10_isWord_10 rfl) ?_
      rfl
theorem c_X10_isWord (v0 : Int32) (h : mx_H) : mx_C mm_X10_isWord [.int v0] h = mx_D (1, mm_X10_isWord, 0, [.int v0], []) h := rfl
theorem e_X10_isWord_13 (v0 : Int32) (h : mx_H)  : mx_D (1, mm_X10_isWord, 13, [.int v0], []) h = mx_D (1, mm_X10_isWord, 14, [.int v0], [.int 0]) h := by
  refine Eq.trans (q_iconst (x := 0) dX10_isWord_13 rfl) ?_
  rfl
theorem e_X10_isWord_14 (v0 : Int32) (s0 : Int32) (h : mx_H)  : mx_D (1, mm_X10_isWord, 14, [.int v0], [.int s0]) h = if narrow .boolean (.int s0) = .int s0 then some (some (.int s0), h) else none := by
  exact q_ret dX10_isWord_14 rfl
theorem e_X10_isArray_0 (v0 : Int32) (h : mx_H)  : mx_D (1, mm_X10_isArray, 0, [.int v0], []) h = if v0 ≤ 4 then mx_D (1, mm_X10_isArray, 10, [.int v0], [.int 0]) h else (mx_D (1, mm_X10_isArray, 10, [.int v0], [.int 1]) h) := by
  refine Eq.trans (q_iload_n dX10_isArray_0 rfl) ?_
  refine Eq.trans (q_iconst (x := 4) dX10_isArray_1 rfl) ?_
  refine Eq.trans (q_icmp_le 9 dX10_isArray_2 rfl) (q_ite2 ?_ ?_)
  · refine Eq.trans (q_iconst (x := 0) dX10_isArray_9 rfl) ?_
    rfl
  · refine Eq.trans (q_iconst (x := 1) dX10_isArray_5 rfl) ?_
    refine Eq.trans (q_goto 10 dX10_isArray_6 rfl) ?_
    rfl
theorem c_X10_isArray (v0 : Int32) (h : mx_H) : mx_C mm_X10_isArray [.int v0] h = mx_D (1, mm_X10_isArray, 0, [.int v0], []) h := rfl
theorem e_X10_isArray_10 (v0 : Int32) (s0 : Int32) (h : mx_H)  : mx_D (1, mm_X10_isArray, 10, [.int v0], [.int s0]) h = if narrow .boolean (.int s0) = .int s0 then some (some (.int s0), h) else none := by
  exact q_ret dX10_isArray_10 rfl
