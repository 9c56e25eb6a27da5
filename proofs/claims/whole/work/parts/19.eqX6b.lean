theorem e_X6_learnFrom_96 (v1 : Int32) (v2 : Int32) (v3 : Int32) (v4 : Value) (h : mx_H)  : mx_D (13, mm_X6_learnFrom, 96, [.ref 33, .int v1, .int v2, .int v3, v4], []) h = some (some (.int 1), h) := by
  refine Eq.trans (q_iconst (x := 1) dX6_learnFrom_96 rfl) ?_
  exact Eq.trans (q_ret dX6_learnFrom_97 rfl) (if_pos rfl)
theorem e_X6_collectDecisions_0 (v1 : Int32) (h : mx_H)  : mx_D (2, mm_X6_collectDecisions, 0, [.ref 33, .int v1, mx_junk, mx_junk], []) h = (mx_C mm_X6_markClause [.ref 33, .int v1] ((mx_u h.1 33 13 0), h.2.1, h.2.2)).bind (fun o => mx_D (2, mm_X6_collectDecisions, 10, [.ref 33, .int v1, mx_junk, mx_junk], o.1.toList ++ []) o.2) := by
  refine Eq.trans (q_aload_n dX6_collectDecisions_0 rfl rfl) ?_
  refine Eq.trans (q_iconst (x := 0) dX6_collectDecisions_1 rfl) ?_
  refine Eq.trans (q_putf dX6_collectDecisions_2 mx_fld_6_140 (pf_33_13 _ _)) ?_
  refine Eq.trans (q_aload_n dX6_collectDecisions_5 rfl rfl) ?_
  refine Eq.trans (q_iload_n dX6_collectDecisions_6 rfl) ?_
  exact q_call0 (as := [.int v1]) (rest := []) dX6_collectDecisions_7 mx_inv_6_152 rfl rfl rfl ⟨Nat.le_of_ble_eq_true rfl, Nat.le_of_ble_eq_true rfl, (Nat.le_of_ble_eq_true rfl)⟩
theorem c_X6_collectDecisions (v1 : Int32) (h : mx_H) : mx_C mm_X6_collectDecisions [.ref 33, .int v1] h = mx_D (2, mm_X6_collectDecisions, 0, [.ref 33, .int v1, mx_junk, mx_junk], []) h := rfl
theorem e_X6_collectDecisions_10 (v1 : Int32) (h : mx_H)  : mx_D (2, mm_X6_collectDecisions, 10, [.ref 33, .int v1, mx_junk, mx_junk], []) h = mx_D (2, mm_X6_collectDecisions, 17, [.ref 33, .int v1, .int ((h.1 33 9) - 1), mx_junk], []) h := by
  refine Eq.trans (q_aload_n dX6_collectDecisions_10 rfl rfl) ?_
  refine Eq.trans (q_getf dX6_collectDecisions_11 mx_fld_6_85 (gf_33_9 _)) ?_
  refine Eq.trans (q_iconst (x := 1) dX6_collectDecisions_14 rfl) ?_
  refine Eq.trans (q_isub dX6_collectDecisions_15) ?_
  refine Eq.trans (q_istore_n (L' := [.ref 33, .int v1, .int ((h.1 33 9) - 1), mx_junk]) dX6_collectDecisions_16 (Nat.le_of_ble_eq_true rfl) rfl) ?_
  rfl
theorem e_X6_collectDecisions_17 (v1 : Int32) (v2 : Int32) (v3 : Value) (h : mx_H)  : mx_D (2, mm_X6_collectDecisions, 17, [.ref 33, .int v1, .int v2, v3], []) h = if v2 < 0 then some (none, h) else (if mx_in v2 1065 = true then if mx_in ((h.1 44 v2.toNatClampNeg) >>> (1 &&& 31)) 1065 = true then if (h.1 40 (((h.1 44 v2.toNatClampNeg) >>> (1 &&& 31)).toNatClampNeg)) = 0 then mx_D (2, mm_X6_collectDecisions, 115, [.ref 33, .int v1, .int v2, .int ((h.1 44 v2.toNatClampNeg) >>> (1 &&& 31))], []) h else (if mx_in ((h.1 44 v2.toNatClampNeg) >>> (1 &&& 31)) 1065 = true then if (h.1 43 (((h.1 44 v2.toNatClampNeg) >>> (1 &&& 31)).toNatClampNeg)) < 0 then if mx_in ((h.1 44 v2.toNatClampNeg) >>> (1 &&& 31)) 1065 = true then if (h.1 43 (((h.1 44 v2.toNatClampNeg) >>> (1 &&& 31)).toNatClampNeg)) = ((-2)) then if 8 ≤ (h.1 33 13) then mx_D (2, mm_X6_collectDecisions, 108, [.ref 33, .int v1, .int v2, .int ((h.1 44 v2.toNatClampNeg) >>> (1 &&& 31))], []) h else (if mx_in v2 1065 = true then if mx_in (h.1 33 13) 8 = true then mx_D (2, mm_X6_collectDecisions, 108, [.ref 33, .int v1, .int v2, .int ((h.1 44 v2.toNatClampNeg) >>> (1 &&& 31))], []) ((mx_u (mx_u h.1 45 ((h.1 33 13).toNatClampNeg) ((h.1 44 v2.toNatClampNeg) ^^^ 1)) 33 13 (((mx_u h.1 45 ((h.1 33 13).toNatClampNeg) ((h.1 44 v2.toNatClampNeg) ^^^ 1)) 33 13) + 1)), h.2.1, h.2.2) else none else none) else (mx_D (2, mm_X6_collectDecisions, 108, [.ref 33, .int v1, .int v2, .int ((h.1 44 v2.toNatClampNeg) >>> (1 &&& 31))], []) h) else none else (if mx_in ((h.1 44 v2.toNatClampNeg) >>> (1 &&& 31)) 1065 = true then (mx_C mm_X6_markClause [.ref 33, .int (h.1 43 (((h.1 44 v2.toNatClampNeg) >>> (1 &&& 31)).toNatClampNeg))] h).bind (fun o => mx_D (2, mm_X6_collectDecisions, 58, [.ref 33, .int v1, .int v2, .int ((h.1 44 v2.toNatClampNeg) >>> (1 &&& 31))], o.1.toList ++ []) o.2) else none) else none) else none else none) := by
  refine Eq.trans (q_iload_n dX6_collectDecisions_17 rfl) ?_
  refine Eq.trans (q_if_lt 121 dX6_collectDecisions_18 rfl) (q_ite2 ?_ ?_)
  · exact q_retV dX6_collectDecisions_121 rfl
  · refine Eq.trans (q_aload_n dX6_collectDecisions_21 rfl rfl) ?_
    refine Eq.trans (q_getf dX6_collectDecisions_22 mx_fld_6_35 (gf_33_8 _)) ?_
    refine Eq.trans (q_iload_n dX6_collectDecisions_25 rfl) ?_
    refine Eq.trans (q_ld (w := 0) (by decide) dX6_collectDecisions_26 (al_44 _ _)) (q_ite ?_)
    refine Eq.trans (q_iconst (x := 1) dX6_collectDecisions_27 rfl) ?_
    refine Eq.trans (q_ishr dX6_collectDecisions_28) ?_
    refine Eq.trans (q_istore_n (L' := [.ref 33, .int v1, .int v2, .int ((h.1 44 v2.toNatClampNeg) >>> (1 &&& 31))]) dX6_collectDecisions_29 (Nat.le_of_ble_eq_true rfl) rfl) ?_
    refine Eq.trans (q_aload_n dX6_collectDecisions_30 rfl rfl) ?_
    refine Eq.trans (q_getf dX6_collectDecisions_31 mx_fld_6_22 (gf_33_4 _)) ?_
    refine Eq.trans (q_iload_n dX6_collectDecisions_34 rfl) ?_
    refine Eq.trans (q_ld (w := 2) (by decide) dX6_collectDecisions_35 (al_40 _ _)) (q_ite ?_)
    refine Eq.trans (q_if_eq 115 dX6_collectDecisions_36 rfl) (q_ite2 ?_ ?_)
    · rfl
    · refine Eq.trans (q_aload_n dX6_collectDecisions_39 rfl rfl) ?_
      refine Eq.trans (q_getf dX6_collectDecisions_40 mx_fld_6_32 (gf_33_7 _)) ?_
      refine Eq.trans (q_iload_n dX6_collectDecisions_43 rfl) ?_
      refine Eq.trans (q_ld (w := 0) (by decide) dX6_collectDecisions_44 (al_43 _ _)) (q_ite ?_)
      refine Eq.trans (q_if_lt 61 dX6_collectDecisions_45 rfl) (q_ite2 ?_ ?_)
      · refine Eq.trans (q_aload_n dX6_collectDecisions_61 rfl rfl) ?_
        refine Eq.trans (q_getf dX6_collectDecisions_62 mx_fld_6_32 (gf_33_7 _)) ?_
        refine Eq.trans (q_iload_n dX6_collectDecisions_65 rfl) ?_
        refine Eq.trans (q_ld (w := 0) (by decide) dX6_collectDecisions_66 (al_43 _ _)) (q_ite ?_)
        refine Eq.trans (q_bipush (x := (-2)) dX6_collectDecisions_67 rfl) ?_
        refine Eq.trans (q_icmp_ne 108 dX6_collectDecisions_69 rfl) (q_ite2 ?_ ?_)
        · refine Eq.trans (q_aload_n dX6_collectDecisions_72 rfl rfl) ?_
          refine Eq.trans (q_getf dX6_collectDecisions_73 mx_fld_6_140 (gf_33_13 _)) ?_
          refine Eq.trans (q_bipush (x := 8) dX6_collectDecisions_76 rfl) ?_
          refine Eq.trans (q_icmp_ge 108 dX6_collectDecisions_78 rfl) (q_ite2 ?_ ?_)
          · rfl
          · refine Eq.trans (q_aload_n dX6_collectDecisions_81 rfl rfl) ?_
            refine Eq.trans (q_getf dX6_collectDecisions_82 mx_fld_6_38 (gf_33_12 _)) ?_
            refine Eq.trans (q_aload_n dX6_collectDecisions_85 rfl rfl) ?_
            refine Eq.trans (q_getf dX6_collectDecisions_86 mx_fld_6_140 (gf_33_13 _)) ?_
            refine Eq.trans (q_aload_n dX6_collectDecisions_89 rfl rfl) ?_
            refine Eq.trans (q_getf dX6_collectDecisions_90 mx_fld_6_35 (gf_33_8 _)) ?_
            refine Eq.trans (q_iload_n dX6_collectDecisions_93 rfl) ?_
            refine Eq.trans (q_ld (w := 0) (by decide) dX6_collectDecisions_94 (al_44 _ _)) (q_ite ?_)
            refine Eq.trans (q_iconst (x := 1) dX6_collectDecisions_95 rfl) ?_
            refine Eq.trans (q_ixor dX6_collectDecisions_96) ?_
            refine Eq.trans (q_st (w := 0) (by decide) dX6_collectDecisions_97 (as_45 _ _ _)) (q_ite ?_)
            refine Eq.trans (q_aload_n dX6_collectDecisions_98 rfl rfl) ?_
            refine Eq.trans (q_dup dX6_collectDecisions_99 rfl) ?_
            refine Eq.trans (q_getf dX6_collectDecisions_100 mx_fld_6_140 (gf_33_13 _)) ?_
            refine Eq.trans (q_iconst (x := 1) dX6_collectDecisions_103 rfl) ?_
            refine Eq.trans (q_iadd dX6_collectDecisions_104) ?_
            refine Eq.trans (q_putf dX6_collectDecisions_105 mx_fld_6_140 (pf_33_13 _ _)) ?_
            rfl
        · rfl
      · refine Eq.trans (q_aload_n dX6_collectDecisions_48 rfl rfl) ?_
        refine Eq.trans (q_aload_n dX6_collectDecisions_49 rfl rfl) ?_
        refine Eq.trans (q_getf dX6_collectDecisions_50 mx_fld_6_32 (gf_33_7 _)) ?_
        refine Eq.trans (q_iload_n dX6_collectDecisions_53 rfl) ?_
        refine Eq.trans (q_ld (w := 0) (by decide) dX6_collectDecisions_54 (al_43 _ _)) (q_ite ?_)
        exact q_call0 (as := [.int (h.1 43 (((h.1 44 v2.toNatClampNeg) >>> (1 &&& 31)).toNatClampNeg))]) (rest := []) dX6_collectDecisions_55 mx_inv_6_152 rfl rfl rfl ⟨Nat.le_of_ble_eq_true rfl, Nat.le_of_ble_eq_true rfl, (Nat.le_of_ble_eq_true rfl)⟩
theorem e_X6_collectDecisions_58 (v1 : Int32) (v2 : Int32) (v3 : Int32) (h : mx_H)  : mx_D (2, mm_X6_collectDecisions, 58, [.ref 33, .int v1, .int v2, .int v3], []) h = mx_D (2, mm_X6_collectDecisions, 108, [.ref 33, .int v1, .int v2, .int v3], []) h := by
  refine Eq.trans (q_goto 108 dX6_collectDecisions_58 rfl) ?_
  rfl
theorem e_X6_collectDecisions_108 (v1 : Int32) (v2 : Int32) (v3 : Int32) (h : mx_H)  : mx_D (2, mm_X6_collectDecisions, 108, [.ref 33, .int v1, .int v2, .int v3], []) h = if mx_in v3 1065 = true then mx_D (2, mm_X6_collectDecisions, 115, [.ref 33, .int v1, .int v2, .int v3], []) ((mx_u h.1 40 v3.toNatClampNeg (vp_nar .boolean 0)), h.2.1, h.2.2) else none := by
  refine Eq.trans (q_aload_n dX6_collectDecisions_108 rfl rfl) ?_
  refine Eq.trans (q_getf dX6_collectDecisions_109 mx_fld_6_22 (gf_33_4 _)) ?_
  refine Eq.trans (q_iload_n dX6_collectDecisions_112 rfl) ?_
  refine Eq.trans (q_iconst (x := 0) dX6_collectDecisions_113 rfl) ?_
  refine Eq.trans (q_st (w := 2) (by decide) dX6_collectDecisions_114 (as_40 _ _ _)) (q_ite ?_)
  rfl
theorem e_X6_collectDecisions_115 (v1 : Int32) (v2 : Int32) (v3 : Int32) (h : mx_H)  : mx_D (2, mm_X6_collectDecisions, 115, [.ref 33, .int v1, .int v2, .int v3], []) h = mx_D (2, mm_X6_collectDecisions, 17, [.ref 33, .int v1, .int (v2 + (-1)), .int v3], []) h := by
  refine Eq.trans (q_iinc (x' := (-1)) (L' := [.ref 33, .int v1, .int (v2 + (-1)), .int v3]) dX6_collectDecisions_115 rfl rfl rfl) ?_
  refine Eq.trans (q_goto 17 dX6_collectDecisions_118 rfl) ?_
  rfl
theorem e_X6_markClause_0 (v1 : Int32) (h : mx_H)  : mx_D (1, mm_X6_markClause, 0, [.ref 33, .int v1, mx_junk], []) h = if mx_in v1 4517 = true then mx_D (1, mm_X6_markClause, 10, [.ref 33, .int v1, .int (h.1 36 v1.toNatClampNeg)], []) h else none := by
  refine Eq.trans (q_aload_n dX6_markClause_0 rfl rfl) ?_
  refine Eq.trans (q_getf dX6_markClause_1 mx_fld_6_12 (gf_33_1 _)) ?_
  refine Eq.trans (q_getf dX6_markClause_4 mx_fld_6_131 (gf_34_1 _)) ?_
  refine Eq.trans (q_iload_n dX6_markClause_7 rfl) ?_
  refine Eq.trans (q_ld (w := 0) (by decide) dX6_markClause_8 (al_36 _ _)) (q_ite ?_)
  refine Eq.trans (q_istore_n (L' := [.ref 33, .int v1, .int (h.1 36 v1.toNatClampNeg)]) dX6_markClause_9 (Nat.le_of_ble_eq_true rfl) rfl) ?_
  rfl
theorem c_X6_markClause (v1 : Int32) (h : mx_H) : mx_C mm_X6_markClause [.ref 33, .int v1] h = mx_D (1, mm_X6_markClause, 0, [.ref 33, .int v1, mx_junk], []) h := rfl
theorem e_X6_markClause_10 (v1 : Int32) (v2 : Int32) (h : mx_H)  : mx_D (1, mm_X6_markClause, 10, [.ref 33, .int v1, .int v2], []) h = if mx_in (v1 + 1) 4517 = true then if (h.1 36 ((v1 + 1).toNatClampNeg)) ≤ v2 then some (none, h) else (if mx_in v2 14828 = true then if mx_in ((h.1 35 v2.toNatClampNeg) >>> (1 &&& 31)) 1065 = true then mx_D (1, mm_X6_markClause, 10, [.ref 33, .int v1, .int (v2 + 1)], []) ((mx_u h.1 40 (((h.1 35 v2.toNatClampNeg) >>> (1 &&& 31)).toNatClampNeg) (vp_nar .boolean 1)), h.2.1, h.2.2) else none else none) else none := by
  refine Eq.trans (q_iload_n dX6_markClause_10 rfl) ?_
  refine Eq.trans (q_aload_n dX6_markClause_11 rfl rfl) ?_
  refine Eq.trans (q_getf dX6_markClause_12 mx_fld_6_12 (gf_33_1 _)) ?_
  refine Eq.trans (q_getf dX6_markClause_15 mx_fld_6_131 (gf_34_1 _)) ?_
  refine Eq.trans (q_iload_n dX6_markClause_18 rfl) ?_
  refine Eq.trans (q_iconst (x := 1) dX6_markClause_19 rfl) ?_
  refine Eq.trans (q_iadd dX6_markClause_20) ?_
  refine Eq.trans (q_ld (w := 0) (by decide) dX6_markClause_21 (al_36 _ _)) (q_ite ?_)
  refine Eq.trans (q_icmp_ge 48 dX6_markClause_22 rfl) (q_ite2 ?_ ?_)
  · exact q_retV dX6_markClause_48 rfl
  · refine Eq.trans (q_aload_n dX6_markClause_25 rfl rfl) ?_
    refine Eq.trans (q_getf dX6_markClause_26 mx_fld_6_22 (gf_33_4 _)) ?_
    refine Eq.trans (q_aload_n dX6_markClause_29 rfl rfl) ?_
    refine Eq.trans (q_getf dX6_markClause_30 mx_fld_6_12 (gf_33_1 _)) ?_
    refine Eq.trans (q_getf dX6_markClause_33 mx_fld_6_134 (gf_34_0 _)) ?_
    refine Eq.trans (q_iload_n dX6_markClause_36 rfl) ?_
    refine Eq.trans (q_ld (w := 0) (by decide) dX6_markClause_37 (al_35 _ _)) (q_ite ?_)
    refine Eq.trans (q_iconst (x := 1) dX6_markClause_38 rfl) ?_
    refine Eq.trans (q_ishr dX6_markClause_39) ?_
    refine Eq.trans (q_iconst (x := 1) dX6_markClause_40 rfl) ?_
    refine Eq.trans (q_st (w := 2) (by decide) dX6_markClause_41 (as_40 _ _ _)) (q_ite ?_)
    refine Eq.trans (q_iinc (x' := 1) (L' := [.ref 33, .int v1, .int (v2 + 1)]) dX6_markClause_42 rfl rfl rfl) ?_
    refine Eq.trans (q_goto 10 dX6_markClause_45 rfl) ?_
    rfl
theorem e_X6_goBack_0 (v1 : Int32) (h : mx_H)  : mx_D (12, mm_X6_goBack, 0, [.ref 33, .int v1], []) h = if (h.1 33 9) ≤ 0 then mx_D (12, mm_X6_goBack, 59, [.ref 33, .int v1], []) h else (if mx_in ((h.1 33 9) - 1) 1065 = true then if mx_in ((h.1 44 (((h.1 33 9) - 1).toNatClampNeg)) >>> (1 &&& 31)) 1065 = true then if (h.1 42 (((h.1 44 (((h.1 33 9) - 1).toNatClampNeg)) >>> (1 &&& 31)).toNatClampNeg)) ≤ v1 then mx_D (12, mm_X6_goBack, 59, [.ref 33, .int v1], []) h else (if mx_in ((mx_u h.1 33 9 ((h.1 33 9) - 1)) 33 9) 1065 = true then if mx_in (((mx_u h.1 33 9 ((h.1 33 9) - 1)) 44 (((mx_u h.1 33 9 ((h.1 33 9) - 1)) 33 9).toNatClampNeg)) >>> (1 &&& 31)) 1065 = true then mx_D (12, mm_X6_goBack, 0, [.ref 33, .int v1], []) ((mx_u (mx_u h.1 33 9 ((h.1 33 9) - 1)) 41 ((((mx_u h.1 33 9 ((h.1 33 9) - 1)) 44 (((mx_u h.1 33 9 ((h.1 33 9) - 1)) 33 9).toNatClampNeg)) >>> (1 &&& 31)).toNatClampNeg) 2), h.2.1, h.2.2) else none else none) else none else none) := by
  refine Eq.trans (q_aload_n dX6_goBack_0 rfl rfl) ?_
  refine Eq.trans (q_getf dX6_goBack_1 mx_fld_6_85 (gf_33_9 _)) ?_
  refine Eq.trans (q_if_le 59 dX6_goBack_4 rfl) (q_ite2 ?_ ?_)
  · rfl
  · refine Eq.trans (q_aload_n dX6_goBack_7 rfl rfl) ?_
    refine Eq.trans (q_getf dX6_goBack_8 mx_fld_6_29 (gf_33_6 _)) ?_
    refine Eq.trans (q_aload_n dX6_goBack_11 rfl rfl) ?_
    refine Eq.trans (q_getf dX6_goBack_12 mx_fld_6_35 (gf_33_8 _)) ?_
    refine Eq.trans (q_aload_n dX6_goBack_15 rfl rfl) ?_
    refine Eq.trans (q_getf dX6_goBack_16 mx_fld_6_85 (gf_33_9 _)) ?_
    refine Eq.trans (q_iconst (x := 1) dX6_goBack_19 rfl) ?_
    refine Eq.trans (q_isub dX6_goBack_20) ?_
    refine Eq.trans (q_ld (w := 0) (by decide) dX6_goBack_21 (al_44 _ _)) (q_ite ?_)
    refine Eq.trans (q_iconst (x := 1) dX6_goBack_22 rfl) ?_
    refine Eq.trans (q_ishr dX6_goBack_23) ?_
    refine Eq.trans (q_ld (w := 0) (by decide) dX6_goBack_24 (al_42 _ _)) (q_ite ?_)
    refine Eq.trans (q_iload_n dX6_goBack_25 rfl) ?_
    refine Eq.trans (q_icmp_le 59 dX6_goBack_26 rfl) (q_ite2 ?_ ?_)
    · rfl
    · refine Eq.trans (q_aload_n dX6_goBack_29 rfl rfl) ?_
      refine Eq.trans (q_dup dX6_goBack_30 rfl) ?_
      refine Eq.trans (q_getf dX6_goBack_31 mx_fld_6_85 (gf_33_9 _)) ?_
      refine Eq.trans (q_iconst (x := 1) dX6_goBack_34 rfl) ?_
      refine Eq.trans (q_isub dX6_goBack_35) ?_
      refine Eq.trans (q_putf dX6_goBack_36 mx_fld_6_85 (pf_33_9 _ _)) ?_
      refine Eq.trans (q_aload_n dX6_goBack_39 rfl rfl) ?_
      refine Eq.trans (q_getf dX6_goBack_40 mx_fld_6_26 (gf_33_5 _)) ?_
      refine Eq.trans (q_aload_n dX6_goBack_43 rfl rfl) ?_
      refine Eq.trans (q_getf dX6_goBack_44 mx_fld_6_35 (gf_33_8 _)) ?_
      refine Eq.trans (q_aload_n dX6_goBack_47 rfl rfl) ?_
      refine Eq.trans (q_getf dX6_goBack_48 mx_fld_6_85 (gf_33_9 _)) ?_
      refine Eq.trans (q_ld (w := 0) (by decide) dX6_goBack_51 (al_44 _ _)) (q_ite ?_)
      refine Eq.trans (q_iconst (x := 1) dX6_goBack_52 rfl) ?_
      refine Eq.trans (q_ishr dX6_goBack_53) ?_
      refine Eq.trans (q_iconst (x := 2) dX6_goBack_54 rfl) ?_
      refine Eq.trans (q_st (w := 0) (by decide) dX6_goBack_55 (as_41 _ _ _)) (q_ite ?_)
      refine Eq.trans (q_goto 0 dX6_goBack_56 rfl) ?_
      rfl
theorem c_X6_goBack (v1 : Int32) (h : mx_H) : mx_C mm_X6_goBack [.ref 33, .int v1] h = mx_D (12, mm_X6_goBack, 0, [.ref 33, .int v1], []) h := rfl
theorem e_X6_goBack_59 (v1 : Int32) (h : mx_H)  : mx_D (12, mm_X6_goBack, 59, [.ref 33, .int v1], []) h = some (none, ((mx_u (mx_u h.1 33 10 (if h.1 33 9 < h.1 33 10 then h.1 33 9 else h.1 33 10)) 33 11 v1), h.2.1, h.2.2)) := by
  refine Eq.trans (q_aload_n dX6_goBack_59 rfl rfl) ?_
  refine Eq.trans (q_aload_n dX6_goBack_60 rfl rfl) ?_
  refine Eq.trans (q_getf dX6_goBack_61 mx_fld_6_88 (gf_33_10 _)) ?_
  refine Eq.trans (q_aload_n dX6_goBack_64 rfl rfl) ?_
  refine Eq.trans (q_getf dX6_goBack_65 mx_fld_6_85 (gf_33_9 _)) ?_
  refine Eq.trans (q_biS dX6_goBack_68 mx_inv_6_155 (by decide)) ?_
  refine Eq.trans (q_putf dX6_goBack_71 mx_fld_6_88 (pf_33_10 _ _)) ?_
  refine Eq.trans (q_aload_n dX6_goBack_74 rfl rfl) ?_
  refine Eq.trans (q_iload_n dX6_goBack_75 rfl) ?_
  refine Eq.trans (q_putf dX6_goBack_76 mx_fld_6_91 (pf_33_11 _ _)) ?_
  exact q_retV dX6_goBack_79 rfl
