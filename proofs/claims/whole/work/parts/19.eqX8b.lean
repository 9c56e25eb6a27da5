theorem c_X8_wordAt (v1 : Int32) (h : mx_H) : mx_C mm_X8_wordAt [.ref 1, .int v1] h = mx_D (2, mm_X8_wordAt, 0, [.ref 1, .int v1], []) h := rfl
theorem e_X8_wordAt_5 (v1 : Int32) (s0 : Int32) (h : mx_H)  : mx_D (2, mm_X8_wordAt, 5, [.ref 1, .int v1], [.int s0]) h = if s0 = 0 then mx_D (2, mm_X8_wordAt, 18, [.ref 1, .int v1], [.null]) h else (if mx_in v1 121 = true then mx_D (2, mm_X8_wordAt, 18, [.ref 1, .int v1], [mx_rf (h.2.2 5 v1.toNatClampNeg)]) h else none) := by
  refine Eq.trans (q_if_eq 17 dX8_wordAt_5 rfl) (q_ite2 ?_ ?_)
  · refine Eq.trans (q_null dX8_wordAt_17) ?_
    rfl
  · refine Eq.trans (q_aload_n dX8_wordAt_8 rfl rfl) ?_
    refine Eq.trans (q_getf dX8_wordAt_9 mx_fld_8_24 (gf_1_4 _)) ?_
    refine Eq.trans (q_iload_n dX8_wordAt_12 rfl) ?_
    refine Eq.trans (q_ld (w := 4) (by decide) dX8_wordAt_13 (al_5 _ _)) (q_ite ?_)
    refine Eq.trans (q_goto 18 dX8_wordAt_14 rfl) ?_
    rfl
theorem e_X8_wordAt_18 (v1 : Int32) (s0 : Option Nat) (h : mx_H)  : mx_D (2, mm_X8_wordAt, 18, [.ref 1, .int v1], [mx_rf s0]) h = some (some (mx_rf s0), h) := by
  exact q_retA dX8_wordAt_18 rfl (mx_ar_rf _)
theorem e_X8_nameAt_0 (v1 : Int32) (h : mx_H)  : mx_D (3, mm_X8_nameAt, 0, [.ref 1, .int v1, mx_junk, mx_junk, mx_junk], []) h = (mx_C mm_X8_sizeOf [.ref 1, .int v1] h).bind (fun o => mx_D (3, mm_X8_nameAt, 5, [.ref 1, .int v1, mx_junk, mx_junk, mx_junk], o.1.toList ++ []) o.2) := by
  refine Eq.trans (q_aload_n dX8_nameAt_0 rfl rfl) ?_
  refine Eq.trans (q_iload_n dX8_nameAt_1 rfl) ?_
  exact q_call0 (as := [.int v1]) (rest := []) dX8_nameAt_2 mx_inv_8_81 rfl rfl rfl ⟨Nat.le_of_ble_eq_true rfl, Nat.le_of_ble_eq_true rfl, (Nat.le_of_ble_eq_true rfl)⟩
theorem c_X8_nameAt (v1 : Int32) (h : mx_H) : mx_C mm_X8_nameAt [.ref 1, .int v1] h = mx_D (3, mm_X8_nameAt, 0, [.ref 1, .int v1, mx_junk, mx_junk, mx_junk], []) h := rfl
theorem e_X8_nameAt_5 (v1 : Int32) (s0 : Int32) (h : mx_H)  : mx_D (3, mm_X8_nameAt, 5, [.ref 1, .int v1, mx_junk, mx_junk, mx_junk], [.int s0]) h = if s0 < 1 then mx_D (3, mm_X8_nameAt, 25, [.ref 1, .int v1, .int s0, mx_junk, mx_junk], []) h else (if 4 < s0 then mx_D (3, mm_X8_nameAt, 25, [.ref 1, .int v1, .int s0, mx_junk, mx_junk], []) h else (if mx_in v1 121 = true then if (mx_rf (h.2.2 5 v1.toNatClampNeg) : Value) = .null then if mx_in v1 121 = true then mx_D (3, mm_X8_nameAt, 37, [.ref 1, .int v1, .int s0, .int 0, .int (h.1 3 v1.toNatClampNeg)], []) h else none else (mx_D (3, mm_X8_nameAt, 25, [.ref 1, .int v1, .int s0, mx_junk, mx_junk], []) h) else none)) := by
  refine Eq.trans (q_istore_n (L' := [.ref 1, .int v1, .int s0, mx_junk, mx_junk]) dX8_nameAt_5 (Nat.le_of_ble_eq_true rfl) rfl) ?_
  refine Eq.trans (q_iload_n dX8_nameAt_6 rfl) ?_
  refine Eq.trans (q_iconst (x := 1) dX8_nameAt_7 rfl) ?_
  refine Eq.trans (q_icmp_lt 25 dX8_nameAt_8 rfl) (q_ite2 ?_ ?_)
  · rfl
  · refine Eq.trans (q_iload_n dX8_nameAt_11 rfl) ?_
    refine Eq.trans (q_iconst (x := 4) dX8_nameAt_12 rfl) ?_
    refine Eq.trans (q_icmp_gt 25 dX8_nameAt_13 rfl) (q_ite2 ?_ ?_)
    · rfl
    · refine Eq.trans (q_aload_n dX8_nameAt_16 rfl rfl) ?_
      refine Eq.trans (q_getf dX8_nameAt_17 mx_fld_8_24 (gf_1_4 _)) ?_
      refine Eq.trans (q_iload_n dX8_nameAt_20 rfl) ?_
      refine Eq.trans (q_ld (w := 4) (by decide) dX8_nameAt_21 (al_5 _ _)) (q_ite ?_)
      refine Eq.trans (q_ifnull 27 dX8_nameAt_22 (mx_ar_rf _) rfl) (q_ite2 ?_ ?_)
      · refine Eq.trans (q_iconst (x := 0) dX8_nameAt_27 rfl) ?_
        refine Eq.trans (q_istore_n (L' := [.ref 1, .int v1, .int s0, .int 0, mx_junk]) dX8_nameAt_28 (Nat.le_of_ble_eq_true rfl) rfl) ?_
        refine Eq.trans (q_aload_n dX8_nameAt_29 rfl rfl) ?_
        refine Eq.trans (q_getf dX8_nameAt_30 mx_fld_8_15 (gf_1_2 _)) ?_
        refine Eq.trans (q_iload_n dX8_nameAt_33 rfl) ?_
        refine Eq.trans (q_ld (w := 0) (by decide) dX8_nameAt_34 (al_3 _ _)) (q_ite ?_)
        refine Eq.trans (q_istore (L' := [.ref 1, .int v1, .int s0, .int 0, .int (h.1 3 v1.toNatClampNeg)]) dX8_nameAt_35 (Nat.le_of_ble_eq_true rfl) rfl) ?_
        rfl
      · rfl
theorem e_X8_nameAt_25 (v1 : Int32) (v2 : Int32) (h : mx_H)  : mx_D (3, mm_X8_nameAt, 25, [.ref 1, .int v1, .int v2, mx_junk, mx_junk], []) h = some (some (.int 0), h) := by
  refine Eq.trans (q_iconst (x := 0) dX8_nameAt_25 rfl) ?_
  exact q_retI dX8_nameAt_26 rfl
theorem e_X8_nameAt_37 (v1 : Int32) (v2 : Int32) (v3 : Int32) (v4 : Int32) (h : mx_H)  : mx_D (3, mm_X8_nameAt, 37, [.ref 1, .int v1, .int v2, .int v3, .int v4], []) h = if mx_in v1 121 = true then if (h.1 4 v1.toNatClampNeg) ≤ v4 then some (some (.int v3), h) else (if mx_in v4 120 = true then (mx_C mm_X8_isLetter [.int (h.1 2 v4.toNatClampNeg)] h).bind (fun o => mx_D (3, mm_X8_nameAt, 58, [.ref 1, .int v1, .int v2, .int v3, .int v4], o.1.toList ++ []) o.2) else none) else none := by
  refine Eq.trans (q_iload dX8_nameAt_37 rfl) ?_
  refine Eq.trans (q_aload_n dX8_nameAt_39 rfl rfl) ?_
  refine Eq.trans (q_getf dX8_nameAt_40 mx_fld_8_19 (gf_1_3 _)) ?_
  refine Eq.trans (q_iload_n dX8_nameAt_43 rfl) ?_
  refine Eq.trans (q_ld (w := 0) (by decide) dX8_nameAt_44 (al_4 _ _)) (q_ite ?_)
  refine Eq.trans (q_icmp_ge 82 dX8_nameAt_45 rfl) (q_ite2 ?_ ?_)
  · refine Eq.trans (q_iload_n dX8_nameAt_82 rfl) ?_
    exact q_retI dX8_nameAt_83 rfl
  · refine Eq.trans (q_aload_n dX8_nameAt_48 rfl rfl) ?_
    refine Eq.trans (q_getf dX8_nameAt_49 mx_fld_8_9 (gf_1_0 _)) ?_
    refine Eq.trans (q_iload dX8_nameAt_52 rfl) ?_
    refine Eq.trans (q_ld (w := 1) (by decide) dX8_nameAt_54 (al_2 _ _)) (q_ite ?_)
    exact q_call1 (as := [.int (h.1 2 v4.toNatClampNeg)]) (rest := []) dX8_nameAt_55 mx_inv_8_71 rfl rfl ⟨Nat.le_of_ble_eq_true rfl, Nat.le_of_ble_eq_true rfl, (Nat.le_of_ble_eq_true rfl)⟩
theorem e_X8_nameAt_58 (v1 : Int32) (v2 : Int32) (v3 : Int32) (v4 : Int32) (s0 : Int32) (h : mx_H)  : mx_D (3, mm_X8_nameAt, 58, [.ref 1, .int v1, .int v2, .int v3, .int v4], [.int s0]) h = if s0 = 0 then some (some (.int 0), h) else (if mx_in v4 120 = true then mx_D (3, mm_X8_nameAt, 37, [.ref 1, .int v1, .int v2, .int ((v3 <<< (8 &&& 31)) ||| (h.1 2 v4.toNatClampNeg)), .int (v4 + 1)], []) h else none) := by
  refine Eq.trans (q_if_ne 63 dX8_nameAt_58 rfl) (q_ite2 ?_ ?_)
  · refine Eq.trans (q_iconst (x := 0) dX8_nameAt_61 rfl) ?_
    exact q_retI dX8_nameAt_62 rfl
  · refine Eq.trans (q_iload_n dX8_nameAt_63 rfl) ?_
    refine Eq.trans (q_bipush (x := 8) dX8_nameAt_64 rfl) ?_
    refine Eq.trans (q_ishl dX8_nameAt_66) ?_
    refine Eq.trans (q_aload_n dX8_nameAt_67 rfl rfl) ?_
    refine Eq.trans (q_getf dX8_nameAt_68 mx_fld_8_9 (gf_1_0 _)) ?_
    refine Eq.trans (q_iload dX8_nameAt_71 rfl) ?_
    refine Eq.trans (q_ld (w := 1) (by decide) dX8_nameAt_73 (al_2 _ _)) (q_ite ?_)
    refine Eq.trans (q_ior dX8_nameAt_74) ?_
    refine Eq.trans (q_istore_n (L' := [.ref 1, .int v1, .int v2, .int ((v3 <<< (8 &&& 31)) ||| (h.1 2 v4.toNatClampNeg)), .int v4]) dX8_nameAt_75 (Nat.le_of_ble_eq_true rfl) rfl) ?_
    refine Eq.trans (q_iinc (x' := 1) (L' := [.ref 1, .int v1, .int v2, .int ((v3 <<< (8 &&& 31)) ||| (h.1 2 v4.toNatClampNeg)), .int (v4 + 1)]) dX8_nameAt_76 rfl rfl rfl) ?_
    refine Eq.trans (q_goto 37 dX8_nameAt_79 rfl) ?_
    rfl
theorem e_X8_numberAt_0 (v1 : Int32) (h : mx_H)  : mx_D (3, mm_X8_numberAt, 0, [.ref 1, .int v1, mx_junk, mx_junk, mx_junk], []) h = (mx_C mm_X8_sizeOf [.ref 1, .int v1] h).bind (fun o => mx_D (3, mm_X8_numberAt, 5, [.ref 1, .int v1, mx_junk, mx_junk, mx_junk], o.1.toList ++ []) o.2) := by
  refine Eq.trans (q_aload_n dX8_numberAt_0 rfl rfl) ?_
  refine Eq.trans (q_iload_n dX8_numberAt_1 rfl) ?_
  exact q_call0 (as := [.int v1]) (rest := []) dX8_numberAt_2 mx_inv_8_81 rfl rfl rfl ⟨Nat.le_of_ble_eq_true rfl, Nat.le_of_ble_eq_true rfl, (Nat.le_of_ble_eq_true rfl)⟩
theorem c_X8_numberAt (v1 : Int32) (h : mx_H) : mx_C mm_X8_numberAt [.ref 1, .int v1] h = mx_D (3, mm_X8_numberAt, 0, [.ref 1, .int v1, mx_junk, mx_junk, mx_junk], []) h := rfl
theorem e_X8_numberAt_5 (v1 : Int32) (s0 : Int32) (h : mx_H)  : mx_D (3, mm_X8_numberAt, 5, [.ref 1, .int v1, mx_junk, mx_junk, mx_junk], [.int s0]) h = if s0 < 1 then mx_D (3, mm_X8_numberAt, 37, [.ref 1, .int v1, .int s0, mx_junk, mx_junk], []) h else (if 2 < s0 then mx_D (3, mm_X8_numberAt, 37, [.ref 1, .int v1, .int s0, mx_junk, mx_junk], []) h else (if s0 = 2 then if mx_in v1 121 = true then if mx_in (h.1 3 v1.toNatClampNeg) 120 = true then if (h.1 2 ((h.1 3 v1.toNatClampNeg).toNatClampNeg)) = 48 then mx_D (3, mm_X8_numberAt, 37, [.ref 1, .int v1, .int s0, mx_junk, mx_junk], []) h else (mx_D (3, mm_X8_numberAt, 39, [.ref 1, .int v1, .int s0, mx_junk, mx_junk], []) h) else none else none else (mx_D (3, mm_X8_numberAt, 39, [.ref 1, .int v1, .int s0, mx_junk, mx_junk], []) h))) := by
  refine Eq.trans (q_istore_n (L' := [.ref 1, .int v1, .int s0, mx_junk, mx_junk]) dX8_numberAt_5 (Nat.le_of_ble_eq_true rfl) rfl) ?_
  refine Eq.trans (q_iload_n dX8_numberAt_6 rfl) ?_
  refine Eq.trans (q_iconst (x := 1) dX8_numberAt_7 rfl) ?_
  refine Eq.trans (q_icmp_lt 37 dX8_numberAt_8 rfl) (q_ite2 ?_ ?_)
  · rfl
  · refine Eq.trans (q_iload_n dX8_numberAt_11 rfl) ?_
    refine Eq.trans (q_iconst (x := 2) dX8_numberAt_12 rfl) ?_
    refine Eq.trans (q_icmp_gt 37 dX8_numberAt_13 rfl) (q_ite2 ?_ ?_)
    · rfl
    · refine Eq.trans (q_iload_n dX8_numberAt_16 rfl) ?_
      refine Eq.trans (q_iconst (x := 2) dX8_numberAt_17 rfl) ?_
      refine Eq.trans (q_icmp_ne 39 dX8_numberAt_18 rfl) (q_ite2 ?_ ?_)
      · refine Eq.trans (q_aload_n dX8_numberAt_21 rfl rfl) ?_
        refine Eq.trans (q_getf dX8_numberAt_22 mx_fld_8_9 (gf_1_0 _)) ?_
        refine Eq.trans (q_aload_n dX8_numberAt_25 rfl rfl) ?_
        refine Eq.trans (q_getf dX8_numberAt_26 mx_fld_8_15 (gf_1_2 _)) ?_
        refine Eq.trans (q_iload_n dX8_numberAt_29 rfl) ?_
        refine Eq.trans (q_ld (w := 0) (by decide) dX8_numberAt_30 (al_3 _ _)) (q_ite ?_)
        refine Eq.trans (q_ld (w := 1) (by decide) dX8_numberAt_31 (al_2 _ _)) (q_ite ?_)
        refine Eq.trans (q_bipush (x := 48) dX8_numberAt_32 rfl) ?_
        refine Eq.trans (q_icmp_ne 39 dX8_numberAt_34 rfl) (q_ite2 ?_ ?_)
        · rfl
        · rfl
      · rfl
theorem e_X8_numberAt_37 (v1 : Int32) (v2 : Int32) (h : mx_H)  : mx_D (3, mm_X8_numberAt, 37, [.ref 1, .int v1, .int v2, mx_junk, mx_junk], []) h = some (some (.int ((-1))), h) := by
  refine Eq.trans (q_iconst (x := (-1)) dX8_numberAt_37 rfl) ?_
  exact q_retI dX8_numberAt_38 rfl
theorem e_X8_numberAt_39 (v1 : Int32) (v2 : Int32) (h : mx_H)  : mx_D (3, mm_X8_numberAt, 39, [.ref 1, .int v1, .int v2, mx_junk, mx_junk], []) h = if mx_in v1 121 = true then mx_D (3, mm_X8_numberAt, 49, [.ref 1, .int v1, .int v2, .int 0, .int (h.1 3 v1.toNatClampNeg)], []) h else none := by
  refine Eq.trans (q_iconst (x := 0) dX8_numberAt_39 rfl) ?_
  refine Eq.trans (q_istore_n (L' := [.ref 1, .int v1, .int v2, .int 0, mx_junk]) dX8_numberAt_40 (Nat.le_of_ble_eq_true rfl) rfl) ?_
  refine Eq.trans (q_aload_n dX8_numberAt_41 rfl rfl) ?_
  refine Eq.trans (q_getf dX8_numberAt_42 mx_fld_8_15 (gf_1_2 _)) ?_
  refine Eq.trans (q_iload_n dX8_numberAt_45 rfl) ?_
  refine Eq.trans (q_ld (w := 0) (by decide) dX8_numberAt_46 (al_3 _ _)) (q_ite ?_)
  refine Eq.trans (q_istore (L' := [.ref 1, .int v1, .int v2, .int 0, .int (h.1 3 v1.toNatClampNeg)]) dX8_numberAt_47 (Nat.le_of_ble_eq_true rfl) rfl) ?_
  rfl
theorem e_X8_numberAt_49 (v1 : Int32) (v2 : Int32) (v3 : Int32) (v4 : Int32) (h : mx_H)  : mx_D (3, mm_X8_numberAt, 49, [.ref 1, .int v1, .int v2, .int v3, .int v4], []) h = if mx_in v1 121 = true then if (h.1 4 v1.toNatClampNeg) ≤ v4 then some (some (.int v3), h) else (if mx_in v4 120 = true then (mx_C mm_X8_isDigit [.int (h.1 2 v4.toNatClampNeg)] h).bind (fun o => mx_D (3, mm_X8_numberAt, 70, [.ref 1, .int v1, .int v2, .int v3, .int v4], o.1.toList ++ []) o.2) else none) else none := by
  refine Eq.trans (q_iload dX8_numberAt_49 rfl) ?_
  refine Eq.trans (q_aload_n dX8_numberAt_51 rfl rfl) ?_
  refine Eq.trans (q_getf dX8_numberAt_52 mx_fld_8_19 (gf_1_3 _)) ?_
  refine Eq.trans (q_iload_n dX8_numberAt_55 rfl) ?_
  refine Eq.trans (q_ld (w := 0) (by decide) dX8_numberAt_56 (al_4 _ _)) (q_ite ?_)
  refine Eq.trans (q_icmp_ge 97 dX8_numberAt_57 rfl) (q_ite2 ?_ ?_)
  · refine Eq.trans (q_iload_n dX8_numberAt_97 rfl) ?_
    exact q_retI dX8_numberAt_98 rfl
  · refine Eq.trans (q_aload_n dX8_numberAt_60 rfl rfl) ?_
    refine Eq.trans (q_getf dX8_numberAt_61 mx_fld_8_9 (gf_1_0 _)) ?_
    refine Eq.trans (q_iload dX8_numberAt_64 rfl) ?_
    refine Eq.trans (q_ld (w := 1) (by decide) dX8_numberAt_66 (al_2 _ _)) (q_ite ?_)
    exact q_call1 (as := [.int (h.1 2 v4.toNatClampNeg)]) (rest := []) dX8_numberAt_67 mx_inv_8_74 rfl rfl ⟨Nat.le_of_ble_eq_true rfl, Nat.le_of_ble_eq_true rfl, (Nat.le_of_ble_eq_true rfl)⟩
theorem e_X8_numberAt_70 (v1 : Int32) (v2 : Int32) (v3 : Int32) (v4 : Int32) (s0 : Int32) (h : mx_H)  : mx_D (3, mm_X8_numberAt, 70, [.ref 1, .int v1, .int v2, .int v3, .int v4], [.int s0]) h = if s0 = 0 then some (some (.int ((-1))), h) else (if mx_in v4 120 = true then mx_D (3, mm_X8_numberAt, 49, [.ref 1, .int v1, .int v2, .int (((10 * v3) + (h.1 2 v4.toNatClampNeg)) - 48), .int (v4 + 1)], []) h else none) := by
  refine Eq.trans (q_if_ne 75 dX8_numberAt_70 rfl) (q_ite2 ?_ ?_)
  · refine Eq.trans (q_iconst (x := (-1)) dX8_numberAt_73 rfl) ?_
    exact q_retI dX8_numberAt_74 rfl
  · refine Eq.trans (q_bipush (x := 10) dX8_numberAt_75 rfl) ?_
    refine Eq.trans (q_iload_n dX8_numberAt_77 rfl) ?_
    refine Eq.trans (q_imul dX8_numberAt_78) ?_
    refine Eq.trans (q_aload_n dX8_numberAt_79 rfl rfl) ?_
    refine Eq.trans (q_getf dX8_numberAt_80 mx_fld_8_9 (gf_1_0 _)) ?_
    refine Eq.trans (q_iload dX8_numberAt_83 rfl) ?_
    refine Eq.trans (q_ld (w := 1) (by decide) dX8_numberAt_85 (al_2 _ _)) (q_ite ?_)
    refine Eq.trans (q_iadd dX8_numberAt_86) ?_
    refine Eq.trans (q_bipush (x := 48) dX8_numberAt_87 rfl) ?_
    refine Eq.trans (q_isub dX8_numberAt_89) ?_
    refine Eq.trans (q_istore_n (L' := [.ref 1, .int v1, .int v2, .int (((10 * v3) + (h.1 2 v4.toNatClampNeg)) - 48), .int v4]) dX8_numberAt_90 (Nat.le_of_ble_eq_true rfl) rfl) ?_
    refine Eq.trans (q_iinc (x' := 1) (L' := [.ref 1, .int v1, .int v2, .int (((10 * v3) + (h.1 2 v4.toNatClampNeg)) - 48), .int (v4 + 1)]) dX8_numberAt_91 rfl rfl rfl) ?_
    refine Eq.trans (q_goto 49 dX8_numberAt_94 rfl) ?_
    rfl
theorem e_X8_widthAt_0 (v1 : Int32) (h : mx_H)  : mx_D (3, mm_X8_widthAt, 0, [.ref 1, .int v1, mx_junk, mx_junk], []) h = (mx_C mm_X8_sizeOf [.ref 1, .int v1] h).bind (fun o => mx_D (3, mm_X8_widthAt, 5, [.ref 1, .int v1, mx_junk, mx_junk], o.1.toList ++ []) o.2) := by
  refine Eq.trans (q_aload_n dX8_widthAt_0 rfl rfl) ?_
  refine Eq.trans (q_iload_n dX8_widthAt_1 rfl) ?_
  exact q_call0 (as := [.int v1]) (rest := []) dX8_widthAt_2 mx_inv_8_81 rfl rfl rfl ⟨Nat.le_of_ble_eq_true rfl, Nat.le_of_ble_eq_true rfl, (Nat.le_of_ble_eq_true rfl)⟩
theorem c_X8_widthAt (v1 : Int32) (h : mx_H) : mx_C mm_X8_widthAt [.ref 1, .int v1] h = mx_D (3, mm_X8_widthAt, 0, [.ref 1, .int v1, mx_junk, mx_junk], []) h := rfl
theorem e_X8_widthAt_5 (v1 : Int32) (s0 : Int32) (h : mx_H)  : mx_D (3, mm_X8_widthAt, 5, [.ref 1, .int v1, mx_junk, mx_junk], [.int s0]) h = if (s0 - 2) < 1 then mx_D (3, mm_X8_widthAt, 52, [.ref 1, .int v1, .int (s0 - 2), mx_junk], []) h else (if 4 < (s0 - 2) then mx_D (3, mm_X8_widthAt, 52, [.ref 1, .int v1, .int (s0 - 2), mx_junk], []) h else (if mx_in v1 121 = true then if mx_in (h.1 3 v1.toNatClampNeg) 120 = true then if (h.1 2 ((h.1 3 v1.toNatClampNeg).toNatClampNeg)) = 35 then if mx_in v1 121 = true then if mx_in ((h.1 3 v1.toNatClampNeg) + 1) 120 = true then if (h.1 2 (((h.1 3 v1.toNatClampNeg) + 1).toNatClampNeg)) = 98 then if mx_in v1 121 = true then mx_D (3, mm_X8_widthAt, 63, [.ref 1, .int v1, .int (s0 - 2), .int ((h.1 3 v1.toNatClampNeg) + 2)], []) h else none else (mx_D (3, mm_X8_widthAt, 52, [.ref 1, .int v1, .int (s0 - 2), mx_junk], []) h) else none else none else (mx_D (3, mm_X8_widthAt, 52, [.ref 1, .int v1, .int (s0 - 2), mx_junk], []) h) else none else none)) := by
  refine Eq.trans (q_iconst (x := 2) dX8_widthAt_5 rfl) ?_
  refine Eq.trans (q_isub dX8_widthAt_6) ?_
  refine Eq.trans (q_istore_n (L' := [.ref 1, .int v1, .int (s0 - 2), mx_junk]) dX8_widthAt_7 (Nat.le_of_ble_eq_true rfl) rfl) ?_
  refine Eq.trans (q_iload_n dX8_widthAt_8 rfl) ?_
  refine Eq.trans (q_iconst (x := 1) dX8_widthAt_9 rfl) ?_
  refine Eq.trans (q_icmp_lt 52 dX8_widthAt_10 rfl) (q_ite2 ?_ ?_)
  · rfl
  · refine Eq.trans (q_iload_n dX8_widthAt_13 rfl) ?_
    refine Eq.trans (q_iconst (x := 4) dX8_widthAt_14 rfl) ?_
    refine Eq.trans (q_icmp_gt 52 dX8_widthAt_15 rfl) (q_ite2 ?_ ?_)
    · rfl
    · refine Eq.trans (q_aload_n dX8_widthAt_18 rfl rfl) ?_
      refine Eq.trans (q_getf dX8_widthAt_19 mx_fld_8_9 (gf_1_0 _)) ?_
      refine Eq.trans (q_aload_n dX8_widthAt_22 rfl rfl) ?_
      refine Eq.trans (q_getf dX8_widthAt_23 mx_fld_8_15 (gf_1_2 _)) ?_
      refine Eq.trans (q_iload_n dX8_widthAt_26 rfl) ?_
      refine Eq.trans (q_ld (w := 0) (by decide) dX8_widthAt_27 (al_3 _ _)) (q_ite ?_)
      refine Eq.trans (q_ld (w := 1) (by decide) dX8_widthAt_28 (al_2 _ _)) (q_ite ?_)
      refine Eq.trans (q_bipush (x := 35) dX8_widthAt_29 rfl) ?_
      refine Eq.trans (q_icmp_ne 52 dX8_widthAt_31 rfl) (q_ite2 ?_ ?_)
      · refine Eq.trans (q_aload_n dX8_widthAt_34 rfl rfl) ?_
        refine Eq.trans (q_getf dX8_widthAt_35 mx_fld_8_9 (gf_1_0 _)) ?_
        refine Eq.trans (q_aload_n dX8_widthAt_38 rfl rfl) ?_
        refine Eq.trans (q_getf dX8_widthAt_39 mx_fld_8_15 (gf_1_2 _)) ?_
        refine Eq.trans (q_iload_n dX8_widthAt_42 rfl) ?_
        refine Eq.trans (q_ld (w := 0) (by decide) dX8_widthAt_43 (al_3 _ _)) (q_ite ?_)
        refine Eq.trans (q_iconst (x := 1) dX8_widthAt_44 rfl) ?_
        refine Eq.trans (q_iadd dX8_widthAt_45) ?_
        refine Eq.trans (q_ld (w := 1) (by decide) dX8_widthAt_46 (al_2 _ _)) (q_ite ?_)
        refine Eq.trans (q_bipush (x := 98) dX8_widthAt_47 rfl) ?_
        refine Eq.trans (q_icmp_eq 54 dX8_widthAt_49 rfl) (q_ite2 ?_ ?_)
        · refine Eq.trans (q_aload_n dX8_widthAt_54 rfl rfl) ?_
          refine Eq.trans (q_getf dX8_widthAt_55 mx_fld_8_15 (gf_1_2 _)) ?_
          refine Eq.trans (q_iload_n dX8_widthAt_58 rfl) ?_
          refine Eq.trans (q_ld (w := 0) (by decide) dX8_widthAt_59 (al_3 _ _)) (q_ite ?_)
          refine Eq.trans (q_iconst (x := 2) dX8_widthAt_60 rfl) ?_
          refine Eq.trans (q_iadd dX8_widthAt_61) ?_
          refine Eq.trans (q_istore_n (L' := [.ref 1, .int v1, .int (s0 - 2), .int ((h.1 3 v1.toNatClampNeg) + 2)]) dX8_widthAt_62 (Nat.le_of_ble_eq_true rfl) rfl) ?_
          rfl
        · rfl
      · rfl
theorem e_X8_widthAt_52 (v1 : Int32) (v2 : Int32) (h : mx_H)  : mx_D (3, mm_X8_widthAt, 52, [.ref 1, .int v1, .int v2, mx_junk], []) h = some (some (.int 0), h) := by
  refine Eq.trans (q_iconst (x := 0) dX8_widthAt_52 rfl) ?_
  exact q_retI dX8_widthAt_53 rfl
theorem e_X8_widthAt_63 (v1 : Int32) (v2 : Int32) (v3 : Int32) (h : mx_H)  : mx_D (3, mm_X8_widthAt, 63, [.ref 1, .int v1, .int v2, .int v3], []) h = if mx_in v1 121 = true then if (h.1 4 v1.toNatClampNeg) ≤ v3 then some (some (.int v2), h) else (if mx_in v3 120 = true then if (h.1 2 v3.toNatClampNeg) = 48 then mx_D (3, mm_X8_widthAt, 97, [.ref 1, .int v1, .int v2, .int v3], []) h else (if mx_in v3 120 = true then if (h.1 2 v3.toNatClampNeg) = 49 then mx_D (3, mm_X8_widthAt, 97, [.ref 1, .int v1, .int v2, .int v3], []) h else (some (some (.int 0), h)) else none) else none) else none := by
  refine Eq.trans (q_iload_n dX8_widthAt_63 rfl) ?_
  refine Eq.trans (q_aload_n dX8_widthAt_64 rfl rfl) ?_
  refine Eq.trans (q_getf dX8_widthAt_65 mx_fld_8_19 (gf_1_3 _)) ?_
  refine Eq.trans (q_iload_n dX8_widthAt_68 rfl) ?_
  refine Eq.trans (q_ld (w := 0) (by decide) dX8_widthAt_69 (al_4 _ _)) (q_ite ?_)
  refine Eq.trans (q_icmp_ge 103 dX8_widthAt_70 rfl) (q_ite2 ?_ ?_)
  · refine Eq.trans (q_iload_n dX8_widthAt_103 rfl) ?_
    exact q_retI dX8_widthAt_104 rfl
  · refine Eq.trans (q_aload_n dX8_widthAt_73 rfl rfl) ?_
    refine Eq.trans (q_getf dX8_widthAt_74 mx_fld_8_9 (gf_1_0 _)) ?_
    refine Eq.trans (q_iload_n dX8_widthAt_77 rfl) ?_
    refine Eq.trans (q_ld (w := 1) (by decide) dX8_widthAt_78 (al_2 _ _)) (q_ite ?_)
    refine Eq.trans (q_bipush (x := 48) dX8_widthAt_79 rfl) ?_
    refine Eq.trans (q_icmp_eq 97 dX8_widthAt_81 rfl) (q_ite2 ?_ ?_)
    · rfl
    · refine Eq.trans (q_aload_n dX8_widthAt_84 rfl rfl) ?_
      refine Eq.trans (q_getf dX8_widthAt_85 mx_fld_8_9 (gf_1_0 _)) ?_
      refine Eq.trans (q_iload_n dX8_widthAt_88 rfl) ?_
      refine Eq.trans (q_ld (w := 1) (by decide) dX8_widthAt_89 (al_2 _ _)) (q_ite ?_)
      refine Eq.trans (q_bipush (x := 49) dX8_widthAt_90 rfl) ?_
      refine Eq.trans (q_icmp_eq 97 dX8_widthAt_92 rfl) (q_ite2 ?_ ?_)
      · rfl
      · refine Eq.trans (q_iconst (x := 0) dX8_widthAt_95 rfl) ?_
        exact q_retI dX8_widthAt_96 rfl
theorem e_X8_widthAt_97 (v1 : Int32) (v2 : Int32) (v3 : Int32) (h : mx_H)  : mx_D (3, mm_X8_widthAt, 97, [.ref 1, .int v1, .int v2, .int v3], []) h = mx_D (3, mm_X8_widthAt, 63, [.ref 1, .int v1, .int v2, .int (v3 + 1)], []) h := by
  refine Eq.trans (q_iinc (x' := 1) (L' := [.ref 1, .int v1, .int v2, .int (v3 + 1)]) dX8_widthAt_97 rfl rfl rfl) ?_
  refine Eq.trans (q_goto 63 dX8_widthAt_100 rfl) ?_
  rfl
theorem e_X8_bitsAt_0 (v1 : Int32) (v2 : Int32) (h : mx_H)  : mx_D (3, mm_X8_bitsAt, 0, [.ref 1, .int v1, .int v2, mx_junk, mx_junk], []) h = (mx_C mm_X8_sizeOf [.ref 1, .int v1] h).bind (fun o => mx_D (3, mm_X8_bitsAt, 7, [.ref 1, .int v1, .int v2, .int 0, mx_junk], o.1.toList ++ []) o.2) := by
  refine Eq.trans (q_iconst (x := 0) dX8_bitsAt_0 rfl) ?_
  refine Eq.trans (q_istore_n (L' := [.ref 1, .int v1, .int v2, .int 0, mx_junk]) dX8_bitsAt_1 (Nat.le_of_ble_eq_true rfl) rfl) ?_
  refine Eq.trans (q_aload_n dX8_bitsAt_2 rfl rfl) ?_
  refine Eq.trans (q_iload_n dX8_bitsAt_3 rfl) ?_
  exact q_call0 (as := [.int v1]) (rest := []) dX8_bitsAt_4 mx_inv_8_81 rfl rfl rfl ⟨Nat.le_of_ble_eq_true rfl, Nat.le_of_ble_eq_true rfl, (Nat.le_of_ble_eq_true rfl)⟩
theorem c_X8_bitsAt (v1 : Int32) (v2 : Int32) (h : mx_H) : mx_C mm_X8_bitsAt [.ref 1, .int v1, .int v2] h = mx_D (3, mm_X8_bitsAt, 0, [.ref 1, .int v1, .int v2, mx_junk, mx_junk], []) h := rfl
theorem e_X8_bitsAt_7 (v1 : Int32) (v2 : Int32) (v3 : Int32) (s0 : Int32) (h : mx_H)  : mx_D (3, mm_X8_bitsAt, 7, [.ref 1, .int v1, .int v2, .int v3, mx_junk], [.int s0]) h = if s0 ≤ v2 then mx_D (3, mm_X8_bitsAt, 53, [.ref 1, .int v1, .int v2, .int v3, mx_junk], []) h else (if mx_in v1 121 = true then mx_D (3, mm_X8_bitsAt, 21, [.ref 1, .int v1, .int v2, .int v3, .int ((h.1 4 v1.toNatClampNeg) - v2)], []) h else none) := by
  refine Eq.trans (q_iload_n dX8_bitsAt_7 rfl) ?_
  refine Eq.trans (q_icmp_le 53 dX8_bitsAt_8 rfl) (q_ite2 ?_ ?_)
  · rfl
  · refine Eq.trans (q_aload_n dX8_bitsAt_11 rfl rfl) ?_
    refine Eq.trans (q_getf dX8_bitsAt_12 mx_fld_8_19 (gf_1_3 _)) ?_
    refine Eq.trans (q_iload_n dX8_bitsAt_15 rfl) ?_
    refine Eq.trans (q_ld (w := 0) (by decide) dX8_bitsAt_16 (al_4 _ _)) (q_ite ?_)
    refine Eq.trans (q_iload_n dX8_bitsAt_17 rfl) ?_
    refine Eq.trans (q_isub dX8_bitsAt_18) ?_
    refine Eq.trans (q_istore (L' := [.ref 1, .int v1, .int v2, .int v3, .int ((h.1 4 v1.toNatClampNeg) - v2)]) dX8_bitsAt_19 (Nat.le_of_ble_eq_true rfl) rfl) ?_
    rfl
theorem e_X8_bitsAt_21 (v1 : Int32) (v2 : Int32) (v3 : Int32) (v4 : Int32) (h : mx_H)  : mx_D (3, mm_X8_bitsAt, 21, [.ref 1, .int v1, .int v2, .int v3, .int v4], []) h = if mx_in v1 121 = true then if (h.1 4 v1.toNatClampNeg) ≤ v4 then mx_D (3, mm_X8_bitsAt, 53, [.ref 1, .int v1, .int v2, .int v3, .int v4], []) h else (if mx_in v4 120 = true then mx_D (3, mm_X8_bitsAt, 21, [.ref 1, .int v1, .int v2, .int (((2 * v3) + (h.1 2 v4.toNatClampNeg)) - 48), .int (v4 + 1)], []) h else none) else none := by
  refine Eq.trans (q_iload dX8_bitsAt_21 rfl) ?_
  refine Eq.trans (q_aload_n dX8_bitsAt_23 rfl rfl) ?_
  refine Eq.trans (q_getf dX8_bitsAt_24 mx_fld_8_19 (gf_1_3 _)) ?_
  refine Eq.trans (q_iload_n dX8_bitsAt_27 rfl) ?_
  refine Eq.trans (q_ld (w := 0) (by decide) dX8_bitsAt_28 (al_4 _ _)) (q_ite ?_)
  refine Eq.trans (q_icmp_ge 53 dX8_bitsAt_29 rfl) (q_ite2 ?_ ?_)
  · rfl
  · refine Eq.trans (q_iconst (x := 2) dX8_bitsAt_32 rfl) ?_
    refine Eq.trans (q_iload_n dX8_bitsAt_33 rfl) ?_
    refine Eq.trans (q_imul dX8_bitsAt_34) ?_
    refine Eq.trans (q_aload_n dX8_bitsAt_35 rfl rfl) ?_
    refine Eq.trans (q_getf dX8_bitsAt_36 mx_fld_8_9 (gf_1_0 _)) ?_
    refine Eq.trans (q_iload dX8_bitsAt_39 rfl) ?_
    refine Eq.trans (q_ld (w := 1) (by decide) dX8_bitsAt_41 (al_2 _ _)) (q_ite ?_)
    refine Eq.trans (q_iadd dX8_bitsAt_42) ?_
    refine Eq.trans (q_bipush (x := 48) dX8_bitsAt_43 rfl) ?_
    refine Eq.trans (q_isub dX8_bitsAt_45) ?_
    refine Eq.trans (q_istore_n (L' := [.ref 1, .int v1, .int v2, .int (((2 * v3) + (h.1 2 v4.toNatClampNeg)) - 48), .int v4]) dX8_bitsAt_46 (Nat.le_of_ble_eq_true rfl) rfl) ?_
    refine Eq.trans (q_iinc (x' := 1) (L' := [.ref 1, .int v1, .int v2, .int (((2 * v3) + (h.1 2 v4.toNatClampNeg)) - 48), .int (v4 + 1)]) dX8_bitsAt_47 rfl rfl rfl) ?_
    refine Eq.trans (q_goto 21 dX8_bitsAt_50 rfl) ?_
    rfl
theorem e_X8_bitsAt_53 (v1 : Int32) (v2 : Int32) (v3 : Int32) (v4 : Value) (h : mx_H)  : mx_D (3, mm_X8_bitsAt, 53, [.ref 1, .int v1, .int v2, .int v3, v4], []) h = some (some (.int v3), h) := by
  refine Eq.trans (q_iload_n dX8_bitsAt_53 rfl) ?_
  exact q_retI dX8_bitsAt_54 rfl
