theorem e_X5_hasConstant_0 (v1 : Int32) (h : mx_H)  : mx_D (1, mm_X5_hasConstant, 0, [.ref 11, .int v1], []) h = if v1 < 0 then mx_D (1, mm_X5_hasConstant, 16, [.ref 11, .int v1], []) h else (if (h.1 11 2) ≤ v1 then mx_D (1, mm_X5_hasConstant, 16, [.ref 11, .int v1], []) h else (mx_D (1, mm_X5_hasConstant, 17, [.ref 11, .int v1], [.int 1]) h)) := by
  refine Eq.trans (q_iload_n dX5_hasConstant_0 rfl) ?_
  refine Eq.trans (q_if_lt 16 dX5_hasConstant_1 rfl) (q_ite2 ?_ ?_)
  · rfl
  · refine Eq.trans (q_iload_n dX5_hasConstant_4 rfl) ?_
    refine Eq.trans (q_aload_n dX5_hasConstant_5 rfl rfl) ?_
    refine Eq.trans (q_getf dX5_hasConstant_6 mx_fld_5_30 (gf_11_2 _)) ?_
    refine Eq.trans (q_icmp_ge 16 dX5_hasConstant_9 rfl) (q_ite2 ?_ ?_)
    · rfl
    · refine Eq.trans (q_iconst (x := 1) dX5_hasConstant_12 rfl) ?_
      refine Eq.trans (q_goto 17 dX5_hasConstant_13 rfl) ?_
      rfl
theorem c_X5_hasConstant (v1 : Int32) (h : mx_H) : mx_C mm_X5_hasConstant [.ref 11, .int v1] h = mx_D (1, mm_X5_hasConstant, 0, [.ref 11, .int v1], []) h := rfl
theorem e_X5_hasConstant_16 (v1 : Int32) (h : mx_H)  : mx_D (1, mm_X5_hasConstant, 16, [.ref 11, .int v1], []) h = mx_D (1, mm_X5_hasConstant, 17, [.ref 11, .int v1], [.int 0]) h := by
  refine Eq.trans (q_iconst (x := 0) dX5_hasConstant_16 rfl) ?_
  rfl
theorem e_X5_hasConstant_17 (v1 : Int32) (s0 : Int32) (h : mx_H)  : mx_D (1, mm_X5_hasConstant, 17, [.ref 11, .int v1], [.int s0]) h = if narrow .boolean (.int s0) = .int s0 then some (some (.int s0), h) else none := by
  exact q_ret dX5_hasConstant_17 rfl
theorem e_X5_hasAssertion_0 (v1 : Int32) (h : mx_H)  : mx_D (1, mm_X5_hasAssertion, 0, [.ref 11, .int v1], []) h = if v1 < 0 then mx_D (1, mm_X5_hasAssertion, 16, [.ref 11, .int v1], []) h else (if (h.1 11 5) ≤ v1 then mx_D (1, mm_X5_hasAssertion, 16, [.ref 11, .int v1], []) h else (mx_D (1, mm_X5_hasAssertion, 17, [.ref 11, .int v1], [.int 1]) h)) := by
  refine Eq.trans (q_iload_n dX5_hasAssertion_0 rfl) ?_
  refine Eq.trans (q_if_lt 16 dX5_hasAssertion_1 rfl) (q_ite2 ?_ ?_)
  · rfl
  · refine Eq.trans (q_iload_n dX5_hasAssertion_4 rfl) ?_
    refine Eq.trans (q_aload_n dX5_hasAssertion_5 rfl rfl) ?_
    refine Eq.trans (q_getf dX5_hasAssertion_6 mx_fld_5_34 (gf_11_5 _)) ?_
    refine Eq.trans (q_icmp_ge 16 dX5_hasAssertion_9 rfl) (q_ite2 ?_ ?_)
    · rfl
    · refine Eq.trans (q_iconst (x := 1) dX5_hasAssertion_12 rfl) ?_
      refine Eq.trans (q_goto 17 dX5_hasAssertion_13 rfl) ?_
      rfl
theorem c_X5_hasAssertion (v1 : Int32) (h : mx_H) : mx_C mm_X5_hasAssertion [.ref 11, .int v1] h = mx_D (1, mm_X5_hasAssertion, 0, [.ref 11, .int v1], []) h := rfl
theorem e_X5_hasAssertion_16 (v1 : Int32) (h : mx_H)  : mx_D (1, mm_X5_hasAssertion, 16, [.ref 11, .int v1], []) h = mx_D (1, mm_X5_hasAssertion, 17, [.ref 11, .int v1], [.int 0]) h := by
  refine Eq.trans (q_iconst (x := 0) dX5_hasAssertion_16 rfl) ?_
  rfl
theorem e_X5_hasAssertion_17 (v1 : Int32) (s0 : Int32) (h : mx_H)  : mx_D (1, mm_X5_hasAssertion, 17, [.ref 11, .int v1], [.int s0]) h = if narrow .boolean (.int s0) = .int s0 then some (some (.int s0), h) else none := by
  exact q_ret dX5_hasAssertion_17 rfl
theorem e_X5_find_0 (v1 : Int32) (h : mx_H)  : mx_D (1, mm_X5_find, 0, [.ref 11, .int v1, mx_junk], []) h = mx_D (1, mm_X5_find, 2, [.ref 11, .int v1, .int 0], []) h := by
  refine Eq.trans (q_iconst (x := 0) dX5_find_0 rfl) ?_
  refine Eq.trans (q_istore_n (L' := [.ref 11, .int v1, .int 0]) dX5_find_1 (Nat.le_of_ble_eq_true rfl) rfl) ?_
  rfl
theorem c_X5_find (v1 : Int32) (h : mx_H) : mx_C mm_X5_find [.ref 11, .int v1] h = mx_D (1, mm_X5_find, 0, [.ref 11, .int v1, mx_junk], []) h := rfl
theorem e_X5_find_2 (v1 : Int32) (v2 : Int32) (h : mx_H)  : mx_D (1, mm_X5_find, 2, [.ref 11, .int v1, .int v2], []) h = if (h.1 11 2) ≤ v2 then some (some (.int ((-1))), h) else (if mx_in v2 8 = true then if (h.1 12 v2.toNatClampNeg) = v1 then if mx_in v2 8 = true then some (some (.int (h.1 13 v2.toNatClampNeg)), h) else none else (mx_D (1, mm_X5_find, 2, [.ref 11, .int v1, .int (v2 + 1)], []) h) else none) := by
  refine Eq.trans (q_iload_n dX5_find_2 rfl) ?_
  refine Eq.trans (q_aload_n dX5_find_3 rfl rfl) ?_
  refine Eq.trans (q_getf dX5_find_4 mx_fld_5_30 (gf_11_2 _)) ?_
  refine Eq.trans (q_icmp_ge 33 dX5_find_7 rfl) (q_ite2 ?_ ?_)
  · refine Eq.trans (q_iconst (x := (-1)) dX5_find_33 rfl) ?_
    exact q_retI dX5_find_34 rfl
  · refine Eq.trans (q_aload_n dX5_find_10 rfl rfl) ?_
    refine Eq.trans (q_getf dX5_find_11 mx_fld_5_9 (gf_11_0 _)) ?_
    refine Eq.trans (q_iload_n dX5_find_14 rfl) ?_
    refine Eq.trans (q_ld (w := 0) (by decide) dX5_find_15 (al_12 _ _)) (q_ite ?_)
    refine Eq.trans (q_iload_n dX5_find_16 rfl) ?_
    refine Eq.trans (q_icmp_ne 27 dX5_find_17 rfl) (q_ite2 ?_ ?_)
    · refine Eq.trans (q_aload_n dX5_find_20 rfl rfl) ?_
      refine Eq.trans (q_getf dX5_find_21 mx_fld_5_15 (gf_11_1 _)) ?_
      refine Eq.trans (q_iload_n dX5_find_24 rfl) ?_
      refine Eq.trans (q_ld (w := 0) (by decide) dX5_find_25 (al_13 _ _)) (q_ite ?_)
      exact q_retI dX5_find_26 rfl
    · refine Eq.trans (q_iinc (x' := 1) (L' := [.ref 11, .int v1, .int (v2 + 1)]) dX5_find_27 rfl rfl rfl) ?_
      refine Eq.trans (q_goto 2 dX5_find_30 rfl) ?_
      rfl
theorem e_X5_declare_0 (v1 : Int32) (v2 : Int32) (v3 : Int32) (h : mx_H)  : mx_D (1, mm_X5_declare, 0, [.ref 11, .int v1, .int v2, .int v3], []) h = if 8 ≤ (h.1 11 2) then mx_D (1, mm_X5_declare, 49, [.ref 11, .int v1, .int v2, .int v3], []) h else (if mx_in (h.1 11 2) 8 = true then if mx_in ((mx_u h.1 12 ((h.1 11 2).toNatClampNeg) v1) 11 2) 8 = true then mx_D (1, mm_X5_declare, 49, [.ref 11, .int v1, .int v2, .int v3], []) ((mx_u (mx_u (mx_u (mx_u h.1 12 ((h.1 11 2).toNatClampNeg) v1) 13 (((mx_u h.1 12 ((h.1 11 2).toNatClampNeg) v1) 11 2).toNatClampNeg) v2) 11 2 (((mx_u (mx_u h.1 12 ((h.1 11 2).toNatClampNeg) v1) 13 (((mx_u h.1 12 ((h.1 11 2).toNatClampNeg) v1) 11 2).toNatClampNeg) v2) 11 2) + 1)) 11 3 (((mx_u (mx_u (mx_u h.1 12 ((h.1 11 2).toNatClampNeg) v1) 13 (((mx_u h.1 12 ((h.1 11 2).toNatClampNeg) v1) 11 2).toNatClampNeg) v2) 11 2 (((mx_u (mx_u h.1 12 ((h.1 11 2).toNatClampNeg) v1) 13 (((mx_u h.1 12 ((h.1 11 2).toNatClampNeg) v1) 11 2).toNatClampNeg) v2) 11 2) + 1)) 11 3) + v3)), h.2.1, h.2.2) else none else none) := by
  refine Eq.trans (q_aload_n dX5_declare_0 rfl rfl) ?_
  refine Eq.trans (q_getf dX5_declare_1 mx_fld_5_30 (gf_11_2 _)) ?_
  refine Eq.trans (q_bipush (x := 8) dX5_declare_4 rfl) ?_
  refine Eq.trans (q_icmp_ge 49 dX5_declare_6 rfl) (q_ite2 ?_ ?_)
  · rfl
  · refine Eq.trans (q_aload_n dX5_declare_9 rfl rfl) ?_
    refine Eq.trans (q_getf dX5_declare_10 mx_fld_5_9 (gf_11_0 _)) ?_
    refine Eq.trans (q_aload_n dX5_declare_13 rfl rfl) ?_
    refine Eq.trans (q_getf dX5_declare_14 mx_fld_5_30 (gf_11_2 _)) ?_
    refine Eq.trans (q_iload_n dX5_declare_17 rfl) ?_
    refine Eq.trans (q_st (w := 0) (by decide) dX5_declare_18 (as_12 _ _ _)) (q_ite ?_)
    refine Eq.trans (q_aload_n dX5_declare_19 rfl rfl) ?_
    refine Eq.trans (q_getf dX5_declare_20 mx_fld_5_15 (gf_11_1 _)) ?_
    refine Eq.trans (q_aload_n dX5_declare_23 rfl rfl) ?_
    refine Eq.trans (q_getf dX5_declare_24 mx_fld_5_30 (gf_11_2 _)) ?_
    refine Eq.trans (q_iload_n dX5_declare_27 rfl) ?_
    refine Eq.trans (q_st (w := 0) (by decide) dX5_declare_28 (as_13 _ _ _)) (q_ite ?_)
    refine Eq.trans (q_aload_n dX5_declare_29 rfl rfl) ?_
    refine Eq.trans (q_dup dX5_declare_30 rfl) ?_
    refine Eq.trans (q_getf dX5_declare_31 mx_fld_5_30 (gf_11_2 _)) ?_
    refine Eq.trans (q_iconst (x := 1) dX5_declare_34 rfl) ?_
    refine Eq.trans (q_iadd dX5_declare_35) ?_
    refine Eq.trans (q_putf dX5_declare_36 mx_fld_5_30 (pf_11_2 _ _)) ?_
    refine Eq.trans (q_aload_n dX5_declare_39 rfl rfl) ?_
    refine Eq.trans (q_dup dX5_declare_40 rfl) ?_
    refine Eq.trans (q_getf dX5_declare_41 mx_fld_5_37 (gf_11_3 _)) ?_
    refine Eq.trans (q_iload_n dX5_declare_44 rfl) ?_
    refine Eq.trans (q_iadd dX5_declare_45) ?_
    refine Eq.trans (q_putf dX5_declare_46 mx_fld_5_37 (pf_11_3 _ _)) ?_
    rfl
theorem c_X5_declare (v1 : Int32) (v2 : Int32) (v3 : Int32) (h : mx_H) : mx_C mm_X5_declare [.ref 11, .int v1, .int v2, .int v3] h = mx_D (1, mm_X5_declare, 0, [.ref 11, .int v1, .int v2, .int v3], []) h := rfl
theorem e_X5_declare_49 (v1 : Int32) (v2 : Int32) (v3 : Int32) (h : mx_H)  : mx_D (1, mm_X5_declare, 49, [.ref 11, .int v1, .int v2, .int v3], []) h = some (some (.int (h.1 11 2)), h) := by
  refine Eq.trans (q_aload_n dX5_declare_49 rfl rfl) ?_
  refine Eq.trans (q_getf dX5_declare_50 mx_fld_5_30 (gf_11_2 _)) ?_
  exact q_retI dX5_declare_53 rfl
theorem e_X5_claim_0 (v1 : Int32) (h : mx_H)  : mx_D (1, mm_X5_claim, 0, [.ref 11, .int v1], []) h = if 12 ≤ (h.1 11 5) then mx_D (1, mm_X5_claim, 29, [.ref 11, .int v1], []) h else (if mx_in (h.1 11 5) 12 = true then mx_D (1, mm_X5_claim, 29, [.ref 11, .int v1], []) ((mx_u (mx_u h.1 14 ((h.1 11 5).toNatClampNeg) v1) 11 5 (((mx_u h.1 14 ((h.1 11 5).toNatClampNeg) v1) 11 5) + 1)), h.2.1, h.2.2) else none) := by
  refine Eq.trans (q_aload_n dX5_claim_0 rfl rfl) ?_
  refine Eq.trans (q_getf dX5_claim_1 mx_fld_5_34 (gf_11_5 _)) ?_
  refine Eq.trans (q_bipush (x := 12) dX5_claim_4 rfl) ?_
  refine Eq.trans (q_icmp_ge 29 dX5_claim_6 rfl) (q_ite2 ?_ ?_)
  · rfl
  · refine Eq.trans (q_aload_n dX5_claim_9 rfl rfl) ?_
    refine Eq.trans (q_getf dX5_claim_10 mx_fld_5_18 (gf_11_4 _)) ?_
    refine Eq.trans (q_aload_n dX5_claim_13 rfl rfl) ?_
    refine Eq.trans (q_getf dX5_claim_14 mx_fld_5_34 (gf_11_5 _)) ?_
    refine Eq.trans (q_iload_n dX5_claim_17 rfl) ?_
    refine Eq.trans (q_st (w := 0) (by decide) dX5_claim_18 (as_14 _ _ _)) (q_ite ?_)
    refine Eq.trans (q_aload_n dX5_claim_19 rfl rfl) ?_
    refine Eq.trans (q_dup dX5_claim_20 rfl) ?_
    refine Eq.trans (q_getf dX5_claim_21 mx_fld_5_34 (gf_11_5 _)) ?_
    refine Eq.trans (q_iconst (x := 1) dX5_claim_24 rfl) ?_
    refine Eq.trans (q_iadd dX5_claim_25) ?_
    refine Eq.trans (q_putf dX5_claim_26 mx_fld_5_34 (pf_11_5 _ _)) ?_
    rfl
theorem c_X5_claim (v1 : Int32) (h : mx_H) : mx_C mm_X5_claim [.ref 11, .int v1] h = mx_D (1, mm_X5_claim, 0, [.ref 11, .int v1], []) h := rfl
theorem e_X5_claim_29 (v1 : Int32) (h : mx_H)  : mx_D (1, mm_X5_claim, 29, [.ref 11, .int v1], []) h = some (some (.int (h.1 11 5)), h) := by
  refine Eq.trans (q_aload_n dX5_claim_29 rfl rfl) ?_
  refine Eq.trans (q_getf dX5_claim_30 mx_fld_5_34 (gf_11_5 _)) ?_
  exact q_retI dX5_claim_33 rfl
theorem e_X5_open_0  (h : mx_H)  : mx_D (1, mm_X5_open, 0, [.ref 11], []) h = if 4 ≤ (h.1 11 9) then mx_D (1, mm_X5_open, 57, [.ref 11], []) h else (if mx_in (h.1 11 9) 4 = true then if mx_in ((mx_u h.1 15 ((h.1 11 9).toNatClampNeg) (h.1 11 2)) 11 9) 4 = true then if mx_in ((mx_u (mx_u h.1 15 ((h.1 11 9).toNatClampNeg) (h.1 11 2)) 16 (((mx_u h.1 15 ((h.1 11 9).toNatClampNeg) (h.1 11 2)) 11 9).toNatClampNeg) ((mx_u h.1 15 ((h.1 11 9).toNatClampNeg) (h.1 11 2)) 11 3)) 11 9) 4 = true then mx_D (1, mm_X5_open, 57, [.ref 11], []) ((mx_u (mx_u (mx_u (mx_u h.1 15 ((h.1 11 9).toNatClampNeg) (h.1 11 2)) 16 (((mx_u h.1 15 ((h.1 11 9).toNatClampNeg) (h.1 11 2)) 11 9).toNatClampNeg) ((mx_u h.1 15 ((h.1 11 9).toNatClampNeg) (h.1 11 2)) 11 3)) 17 (((mx_u (mx_u h.1 15 ((h.1 11 9).toNatClampNeg) (h.1 11 2)) 16 (((mx_u h.1 15 ((h.1 11 9).toNatClampNeg) (h.1 11 2)) 11 9).toNatClampNeg) ((mx_u h.1 15 ((h.1 11 9).toNatClampNeg) (h.1 11 2)) 11 3)) 11 9).toNatClampNeg) ((mx_u (mx_u h.1 15 ((h.1 11 9).toNatClampNeg) (h.1 11 2)) 16 (((mx_u h.1 15 ((h.1 11 9).toNatClampNeg) (h.1 11 2)) 11 9).toNatClampNeg) ((mx_u h.1 15 ((h.1 11 9).toNatClampNeg) (h.1 11 2)) 11 3)) 11 5)) 11 9 (((mx_u (mx_u (mx_u h.1 15 ((h.1 11 9).toNatClampNeg) (h.1 11 2)) 16 (((mx_u h.1 15 ((h.1 11 9).toNatClampNeg) (h.1 11 2)) 11 9).toNatClampNeg) ((mx_u h.1 15 ((h.1 11 9).toNatClampNeg) (h.1 11 2)) 11 3)) 17 (((mx_u (mx_u h.1 15 ((h.1 11 9).toNatClampNeg) (h.1 11 2)) 16 (((mx_u h.1 15 ((h.1 11 9).toNatClampNeg) (h.1 11 2)) 11 9).toNatClampNeg) ((mx_u h.1 15 ((h.1 11 9).toNatClampNeg) (h.1 11 2)) 11 3)) 11 9).toNatClampNeg) ((mx_u (mx_u h.1 15 ((h.1 11 9).toNatClampNeg) (h.1 11 2)) 16 (((mx_u h.1 15 ((h.1 11 9).toNatClampNeg) (h.1 11 2)) 11 9).toNatClampNeg) ((mx_u h.1 15 ((h.1 11 9).toNatClampNeg) (h.1 11 2)) 11 3)) 11 5)) 11 9) + 1)), h.2.1, h.2.2) else none else none else none) := by
  refine Eq.trans (q_aload_n dX5_open_0 rfl rfl) ?_
  refine Eq.trans (q_getf dX5_open_1 mx_fld_5_40 (gf_11_9 _)) ?_
  refine Eq.trans (q_iconst (x := 4) dX5_open_4 rfl) ?_
  refine Eq.trans (q_icmp_ge 57 dX5_open_5 rfl) (q_ite2 ?_ ?_)
  · rfl
  · refine Eq.trans (q_aload_n dX5_open_8 rfl rfl) ?_
    refine Eq.trans (q_getf dX5_open_9 mx_fld_5_21 (gf_11_6 _)) ?_
    refine Eq.trans (q_aload_n dX5_open_12 rfl rfl) ?_
    refine Eq.trans (q_getf dX5_open_13 mx_fld_5_40 (gf_11_9 _)) ?_
    refine Eq.trans (q_aload_n dX5_open_16 rfl rfl) ?_
    refine Eq.trans (q_getf dX5_open_17 mx_fld_5_30 (gf_11_2 _)) ?_
    refine Eq.trans (q_st (w := 0) (by decide) dX5_open_20 (as_15 _ _ _)) (q_ite ?_)
    refine Eq.trans (q_aload_n dX5_open_21 rfl rfl) ?_
    refine Eq.trans (q_getf dX5_open_22 mx_fld_5_24 (gf_11_7 _)) ?_
    refine Eq.trans (q_aload_n dX5_open_25 rfl rfl) ?_
    refine Eq.trans (q_getf dX5_open_26 mx_fld_5_40 (gf_11_9 _)) ?_
    refine Eq.trans (q_aload_n dX5_open_29 rfl rfl) ?_
    refine Eq.trans (q_getf dX5_open_30 mx_fld_5_37 (gf_11_3 _)) ?_
    refine Eq.trans (q_st (w := 0) (by decide) dX5_open_33 (as_16 _ _ _)) (q_ite ?_)
    refine Eq.trans (q_aload_n dX5_open_34 rfl rfl) ?_
    refine Eq.trans (q_getf dX5_open_35 mx_fld_5_27 (gf_11_8 _)) ?_
    refine Eq.trans (q_aload_n dX5_open_38 rfl rfl) ?_
    refine Eq.trans (q_getf dX5_open_39 mx_fld_5_40 (gf_11_9 _)) ?_
    refine Eq.trans (q_aload_n dX5_open_42 rfl rfl) ?_
    refine Eq.trans (q_getf dX5_open_43 mx_fld_5_34 (gf_11_5 _)) ?_
    refine Eq.trans (q_st (w := 0) (by decide) dX5_open_46 (as_17 _ _ _)) (q_ite ?_)
    refine Eq.trans (q_aload_n dX5_open_47 rfl rfl) ?_
    refine Eq.trans (q_dup dX5_open_48 rfl) ?_
    refine Eq.trans (q_getf dX5_open_49 mx_fld_5_40 (gf_11_9 _)) ?_
    refine Eq.trans (q_iconst (x := 1) dX5_open_52 rfl) ?_
    refine Eq.trans (q_iadd dX5_open_53) ?_
    refine Eq.trans (q_putf dX5_open_54 mx_fld_5_40 (pf_11_9 _ _)) ?_
    rfl
theorem c_X5_open  (h : mx_H) : mx_C mm_X5_open [.ref 11] h = mx_D (1, mm_X5_open, 0, [.ref 11], []) h := rfl
theorem e_X5_open_57  (h : mx_H)  : mx_D (1, mm_X5_open, 57, [.ref 11], []) h = some (some (.int (h.1 11 9)), h) := by
  refine Eq.trans (q_aload_n dX5_open_57 rfl rfl) ?_
  refine Eq.trans (q_getf dX5_open_58 mx_fld_5_40 (gf_11_9 _)) ?_
  exact q_retI dX5_open_61 rfl
theorem e_X5_close_0  (h : mx_H)  : mx_D (1, mm_X5_close, 0, [.ref 11], []) h = if (h.1 11 9) ≤ 0 then mx_D (1, mm_X5_close, 56, [.ref 11], []) h else (if mx_in ((mx_u h.1 11 9 ((h.1 11 9) - 1)) 11 9) 4 = true then if mx_in ((mx_u (mx_u h.1 11 9 ((h.1 11 9) - 1)) 11 2 ((mx_u h.1 11 9 ((h.1 11 9) - 1)) 15 (((mx_u h.1 11 9 ((h.1 11 9) - 1)) 11 9).toNatClampNeg))) 11 9) 4 = true then if mx_in ((mx_u (mx_u (mx_u h.1 11 9 ((h.1 11 9) - 1)) 11 2 ((mx_u h.1 11 9 ((h.1 11 9) - 1)) 15 (((mx_u h.1 11 9 ((h.1 11 9) - 1)) 11 9).toNatClampNeg))) 11 3 ((mx_u (mx_u h.1 11 9 ((h.1 11 9) - 1)) 11 2 ((mx_u h.1 11 9 ((h.1 11 9) - 1)) 15 (((mx_u h.1 11 9 ((h.1 11 9) - 1)) 11 9).toNatClampNeg))) 16 (((mx_u (mx_u h.1 11 9 ((h.1 11 9) - 1)) 11 2 ((mx_u h.1 11 9 ((h.1 11 9) - 1)) 15 (((mx_u h.1 11 9 ((h.1 11 9) - 1)) 11 9).toNatClampNeg))) 11 9).toNatClampNeg))) 11 9) 4 = true then mx_D (1, mm_X5_close, 56, [.ref 11], []) ((mx_u (mx_u (mx_u (mx_u h.1 11 9 ((h.1 11 9) - 1)) 11 2 ((mx_u h.1 11 9 ((h.1 11 9) - 1)) 15 (((mx_u h.1 11 9 ((h.1 11 9) - 1)) 11 9).toNatClampNeg))) 11 3 ((mx_u (mx_u h.1 11 9 ((h.1 11 9) - 1)) 11 2 ((mx_u h.1 11 9 ((h.1 11 9) - 1)) 15 (((mx_u h.1 11 9 ((h.1 11 9) - 1)) 11 9).toNatClampNeg))) 16 (((mx_u (mx_u h.1 11 9 ((h.1 11 9) - 1)) 11 2 ((mx_u h.1 11 9 ((h.1 11 9) - 1)) 15 (((mx_u h.1 11 9 ((h.1 11 9) - 1)) 11 9).toNatClampNeg))) 11 9).toNatClampNeg))) 11 5 ((mx_u (mx_u (mx_u h.1 11 9 ((h.1 11 9) - 1)) 11 2 ((mx_u h.1 11 9 ((h.1 11 9) - 1)) 15 (((mx_u h.1 11 9 ((h.1 11 9) - 1)) 11 9).toNatClampNeg))) 11 3 ((mx_u (mx_u h.1 11 9 ((h.1 11 9) - 1)) 11 2 ((mx_u h.1 11 9 ((h.1 11 9) - 1)) 15 (((mx_u h.1 11 9 ((h.1 11 9) - 1)) 11 9).toNatClampNeg))) 16 (((mx_u (mx_u h.1 11 9 ((h.1 11 9) - 1)) 11 2 ((mx_u h.1 11 9 ((h.1 11 9) - 1)) 15 (((mx_u h.1 11 9 ((h.1 11 9) - 1)) 11 9).toNatClampNeg))) 11 9).toNatClampNeg))) 17 (((mx_u (mx_u (mx_u h.1 11 9 ((h.1 11 9) - 1)) 11 2 ((mx_u h.1 11 9 ((h.1 11 9) - 1)) 15 (((mx_u h.1 11 9 ((h.1 11 9) - 1)) 11 9).toNatClampNeg))) 11 3 ((mx_u (mx_u h.1 11 9 ((h.1 11 9) - 1)) 11 2 ((mx_u h.1 11 9 ((h.1 11 9) - 1)) 15 (((mx_u h.1 11 9 ((h.1 11 9) - 1)) 11 9).toNatClampNeg))) 16 (((mx_u (mx_u h.1 11 9 ((h.1 11 9) - 1)) 11 2 ((mx_u h.1 11 9 ((h.1 11 9) - 1)) 15 (((mx_u h.1 11 9 ((h.1 11 9) - 1)) 11 9).toNatClampNeg))) 11 9).toNatClampNeg))) 11 9).toNatClampNeg))), h.2.1, h.2.2) else none else none else none) := by
  refine Eq.trans (q_aload_n dX5_close_0 rfl rfl) ?_
  refine Eq.trans (q_getf dX5_close_1 mx_fld_5_40 (gf_11_9 _)) ?_
  refine Eq.trans (q_if_le 56 dX5_close_4 rfl) (q_ite2 ?_ ?_)
  · rfl
  · refine Eq.trans (q_aload_n dX5_close_7 rfl rfl) ?_
    refine Eq.trans (q_dup dX5_close_8 rfl) ?_
    refine Eq.trans (q_getf dX5_close_9 mx_fld_5_40 (gf_11_9 _)) ?_
    refine Eq.trans (q_iconst (x := 1) dX5_close_12 rfl) ?_
    refine Eq.trans (q_isub dX5_close_13) ?_
    refine Eq.trans (q_putf dX5_close_14 mx_fld_5_40 (pf_11_9 _ _)) ?_
    refine Eq.trans (q_aload_n dX5_close_17 rfl rfl) ?_
    refine Eq.trans (q_aload_n dX5_close_18 rfl rfl) ?_
    refine Eq.trans (q_getf dX5_close_19 mx_fld_5_21 (gf_11_6 _)) ?_
    refine Eq.trans (q_aload_n dX5_close_22 rfl rfl) ?_
    refine Eq.trans (q_getf dX5_close_23 mx_fld_5_40 (gf_11_9 _)) ?_
    refine Eq.trans (q_ld (w := 0) (by decide) dX5_close_26 (al_15 _ _)) (q_ite ?_)
    refine Eq.trans (q_putf dX5_close_27 mx_fld_5_30 (pf_11_2 _ _)) ?_
    refine Eq.trans (q_aload_n dX5_close_30 rfl rfl) ?_
    refine Eq.trans (q_aload_n dX5_close_31 rfl rfl) ?_
    refine Eq.trans (q_getf dX5_close_32 mx_fld_5_24 (gf_11_7 _)) ?_
    refine Eq.trans (q_aload_n dX5_close_35 rfl rfl) ?_
    refine Eq.trans (q_getf dX5_close_36 mx_fld_5_40 (gf_11_9 _)) ?_
    refine Eq.trans (q_ld (w := 0) (by decide) dX5_close_39 (al_16 _ _)) (q_ite ?_)
    refine Eq.trans (q_putf dX5_close_40 mx_fld_5_37 (pf_11_3 _ _)) ?_
    refine Eq.trans (q_aload_n dX5_close_43 rfl rfl) ?_
    refine Eq.trans (q_aload_n dX5_close_44 rfl rfl) ?_
    refine Eq.trans (q_getf dX5_close_45 mx_fld_5_27 (gf_11_8 _)) ?_
    refine Eq.trans (q_aload_n dX5_close_48 rfl rfl) ?_
    refine Eq.trans (q_getf dX5_close_49 mx_fld_5_40 (gf_11_9 _)) ?_
    refine Eq.trans (q_ld (w := 0) (by decide) dX5_close_52 (al_17 _ _)) (q_ite ?_)
    refine Eq.trans (q_putf dX5_close_53 mx_fld_5_34 (pf_11_5 _ _)) ?_
    rfl
theorem c_X5_close  (h : mx_H) : mx_C mm_X5_close [.ref 11] h = mx_D (1, mm_X5_close, 0, [.ref 11], []) h := rfl
theorem e_X5_close_56  (h : mx_H)  : mx_D (1, mm_X5_close, 56, [.ref 11], []) h = some (some (.int (h.1 11 9)), h) := by
  refine Eq.trans (q_aload_n dX5_close_56 rfl rfl) ?_
  refine Eq.trans (q_getf dX5_close_57 mx_fld_5_40 (gf_11_9 _)) ?_
  exact q_retI dX5_close_60 rfl
