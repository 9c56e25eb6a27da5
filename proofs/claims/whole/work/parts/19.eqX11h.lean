theorem e_X11_least_0 (v1 : Int32) (h : mx_H)  : mx_D (1, mm_X11_least, 0, [.ref 47, .int v1, mx_junk, mx_junk, mx_junk, mx_junk], []) h = mx_D (1, mm_X11_least, 8, [.ref 47, .int v1, .int ((-1)), .int ((1 <<< (v1 &&& 31)) - 1), mx_junk, mx_junk], []) h := by
  refine Eq.trans (q_iconst (x := (-1)) dX11_least_0 rfl) ?_
  refine Eq.trans (q_istore_n (L' := [.ref 47, .int v1, .int ((-1)), mx_junk, mx_junk, mx_junk]) dX11_least_1 (Nat.le_of_ble_eq_true rfl) rfl) ?_
  refine Eq.trans (q_iconst (x := 1) dX11_least_2 rfl) ?_
  refine Eq.trans (q_iload_n dX11_least_3 rfl) ?_
  refine Eq.trans (q_ishl dX11_least_4) ?_
  refine Eq.trans (q_iconst (x := 1) dX11_least_5 rfl) ?_
  refine Eq.trans (q_isub dX11_least_6) ?_
  refine Eq.trans (q_istore_n (L' := [.ref 47, .int v1, .int ((-1)), .int ((1 <<< (v1 &&& 31)) - 1), mx_junk, mx_junk]) dX11_least_7 (Nat.le_of_ble_eq_true rfl) rfl) ?_
  rfl
theorem c_X11_least (v1 : Int32) (h : mx_H) : mx_C mm_X11_least [.ref 47, .int v1] h = mx_D (1, mm_X11_least, 0, [.ref 47, .int v1, mx_junk, mx_junk, mx_junk, mx_junk], []) h := rfl
theorem e_X11_least_8 (v1 : Int32) (v2 : Int32) (v3 : Int32) (v4 : Value) (v5 : Value) (h : mx_H)  : mx_D (1, mm_X11_least, 8, [.ref 47, .int v1, .int v2, .int v3, v4, v5], []) h = if v3 < 0 then some (some (.int v2), h) else (mx_D (1, mm_X11_least, 18, [.ref 47, .int v1, .int v2, .int v3, .int 1, .int 0], []) h) := by
  refine Eq.trans (q_iload_n dX11_least_8 rfl) ?_
  refine Eq.trans (q_if_lt 88 dX11_least_9 rfl) (q_ite2 ?_ ?_)
  · refine Eq.trans (q_iload_n dX11_least_88 rfl) ?_
    exact q_retI dX11_least_89 rfl
  · refine Eq.trans (q_iconst (x := 1) dX11_least_12 rfl) ?_
    refine Eq.trans (q_istore (L' := [.ref 47, .int v1, .int v2, .int v3, .int 1, v5]) dX11_least_13 (Nat.le_of_ble_eq_true rfl) rfl) ?_
    refine Eq.trans (q_iconst (x := 0) dX11_least_15 rfl) ?_
    refine Eq.trans (q_istore (L' := [.ref 47, .int v1, .int v2, .int v3, .int 1, .int 0]) dX11_least_16 (Nat.le_of_ble_eq_true rfl) rfl) ?_
    rfl
theorem e_X11_least_18 (v1 : Int32) (v2 : Int32) (v3 : Int32) (v4 : Int32) (v5 : Int32) (h : mx_H)  : mx_D (1, mm_X11_least, 18, [.ref 47, .int v1, .int v2, .int v3, .int v4, .int v5], []) h = if (h.1 47 31) ≤ v5 then if v4 = 0 then mx_D (1, mm_X11_least, 81, [.ref 47, .int v1, .int v2, .int v3, .int v4, .int v5], [.int v2]) h else (mx_D (1, mm_X11_least, 81, [.ref 47, .int v1, .int v2, .int v3, .int v4, .int v5], [.int v3]) h) else (if v4 = 0 then mx_D (1, mm_X11_least, 62, [.ref 47, .int v1, .int v2, .int v3, .int v4, .int v5], []) h else (if mx_in v5 12 = true then if (h.1 71 v5.toNatClampNeg) = 0 then mx_D (1, mm_X11_least, 58, [.ref 47, .int v1, .int v2, .int v3, .int v4, .int v5], []) h else (if mx_in ((256 * v5) + v3) 3072 = true then if (h.1 69 (((256 * v5) + v3).toNatClampNeg)) = 0 then mx_D (1, mm_X11_least, 62, [.ref 47, .int v1, .int v2, .int v3, .int v4, .int v5], []) h else (mx_D (1, mm_X11_least, 58, [.ref 47, .int v1, .int v2, .int v3, .int v4, .int v5], []) h) else none) else none)) := by
  refine Eq.trans (q_iload dX11_least_18 rfl) ?_
  refine Eq.trans (q_aload_n dX11_least_20 rfl rfl) ?_
  refine Eq.trans (q_getf dX11_least_21 mx_fld_11_302 (gf_47_31 _)) ?_
  refine Eq.trans (q_icmp_ge 71 dX11_least_24 rfl) (q_ite2 ?_ ?_)
  · refine Eq.trans (q_iload dX11_least_71 rfl) ?_
    refine Eq.trans (q_if_eq 80 dX11_least_73 rfl) (q_ite2 ?_ ?_)
    · refine Eq.trans (q_iload_n dX11_least_80 rfl) ?_
      rfl
    · refine Eq.trans (q_iload_n dX11_least_76 rfl) ?_
      refine Eq.trans (q_goto 81 dX11_least_77 rfl) ?_
      rfl
  · refine Eq.trans (q_iload dX11_least_27 rfl) ?_
    refine Eq.trans (q_if_eq 62 dX11_least_29 rfl) (q_ite2 ?_ ?_)
    · rfl
    · refine Eq.trans (q_aload_n dX11_least_32 rfl rfl) ?_
      refine Eq.trans (q_getf dX11_least_33 mx_fld_11_81 (gf_47_40 _)) ?_
      refine Eq.trans (q_iload dX11_least_36 rfl) ?_
      refine Eq.trans (q_ld (w := 2) (by decide) dX11_least_38 (al_71 _ _)) (q_ite ?_)
      refine Eq.trans (q_if_eq 58 dX11_least_39 rfl) (q_ite2 ?_ ?_)
      · rfl
      · refine Eq.trans (q_aload_n dX11_least_42 rfl rfl) ?_
        refine Eq.trans (q_getf dX11_least_43 mx_fld_11_74 (gf_47_37 _)) ?_
        refine Eq.trans (q_sipush (x := 256) dX11_least_46 rfl) ?_
        refine Eq.trans (q_iload dX11_least_49 rfl) ?_
        refine Eq.trans (q_imul dX11_least_51) ?_
        refine Eq.trans (q_iload_n dX11_least_52 rfl) ?_
        refine Eq.trans (q_iadd dX11_least_53) ?_
        refine Eq.trans (q_ld (w := 2) (by decide) dX11_least_54 (al_69 _ _)) (q_ite ?_)
        refine Eq.trans (q_if_eq 62 dX11_least_55 rfl) (q_ite2 ?_ ?_)
        · rfl
        · rfl
theorem e_X11_least_58 (v1 : Int32) (v2 : Int32) (v3 : Int32) (v4 : Int32) (v5 : Int32) (h : mx_H)  : mx_D (1, mm_X11_least, 58, [.ref 47, .int v1, .int v2, .int v3, .int v4, .int v5], []) h = mx_D (1, mm_X11_least, 63, [.ref 47, .int v1, .int v2, .int v3, .int v4, .int v5], [.int 1]) h := by
  refine Eq.trans (q_iconst (x := 1) dX11_least_58 rfl) ?_
  refine Eq.trans (q_goto 63 dX11_least_59 rfl) ?_
  rfl
theorem e_X11_least_62 (v1 : Int32) (v2 : Int32) (v3 : Int32) (v4 : Int32) (v5 : Int32) (h : mx_H)  : mx_D (1, mm_X11_least, 62, [.ref 47, .int v1, .int v2, .int v3, .int v4, .int v5], []) h = mx_D (1, mm_X11_least, 63, [.ref 47, .int v1, .int v2, .int v3, .int v4, .int v5], [.int 0]) h := by
  refine Eq.trans (q_iconst (x := 0) dX11_least_62 rfl) ?_
  rfl
theorem e_X11_least_63 (v1 : Int32) (v2 : Int32) (v3 : Int32) (v4 : Int32) (v5 : Int32) (s0 : Int32) (h : mx_H)  : mx_D (1, mm_X11_least, 63, [.ref 47, .int v1, .int v2, .int v3, .int v4, .int v5], [.int s0]) h = mx_D (1, mm_X11_least, 18, [.ref 47, .int v1, .int v2, .int v3, .int s0, .int (v5 + 1)], []) h := by
  refine Eq.trans (q_istore (L' := [.ref 47, .int v1, .int v2, .int v3, .int s0, .int v5]) dX11_least_63 (Nat.le_of_ble_eq_true rfl) rfl) ?_
  refine Eq.trans (q_iinc (x' := 1) (L' := [.ref 47, .int v1, .int v2, .int v3, .int s0, .int (v5 + 1)]) dX11_least_65 rfl rfl rfl) ?_
  refine Eq.trans (q_goto 18 dX11_least_68 rfl) ?_
  rfl
theorem e_X11_least_81 (v1 : Int32) (v2 : Int32) (v3 : Int32) (v4 : Int32) (v5 : Int32) (s0 : Int32) (h : mx_H)  : mx_D (1, mm_X11_least, 81, [.ref 47, .int v1, .int v2, .int v3, .int v4, .int v5], [.int s0]) h = mx_D (1, mm_X11_least, 8, [.ref 47, .int v1, .int s0, .int (v3 + (-1)), .int v4, .int v5], []) h := by
  refine Eq.trans (q_istore_n (L' := [.ref 47, .int v1, .int s0, .int v3, .int v4, .int v5]) dX11_least_81 (Nat.le_of_ble_eq_true rfl) rfl) ?_
  refine Eq.trans (q_iinc (x' := (-1)) (L' := [.ref 47, .int v1, .int s0, .int (v3 + (-1)), .int v4, .int v5]) dX11_least_82 rfl rfl rfl) ?_
  refine Eq.trans (q_goto 8 dX11_least_85 rfl) ?_
  rfl
theorem e_X11_check_0  (h : mx_H)  : mx_D (5, mm_X11_check, 0, [.ref 47, mx_junk, mx_junk, mx_junk], []) h = (mx_C mm_X11_allBits [.ref 47] h).bind (fun o => mx_D (5, mm_X11_check, 4, [.ref 47, mx_junk, mx_junk, mx_junk], o.1.toList ++ []) o.2) := by
  refine Eq.trans (q_aload_n dX11_check_0 rfl rfl) ?_
  exact q_call0 (as := []) (rest := []) dX11_check_1 mx_inv_11_290 rfl rfl rfl ⟨Nat.le_of_ble_eq_true rfl, Nat.le_of_ble_eq_true rfl, (Nat.le_of_ble_eq_true rfl)⟩
theorem c_X11_check  (h : mx_H) : mx_C mm_X11_check [.ref 47] h = mx_D (5, mm_X11_check, 0, [.ref 47, mx_junk, mx_junk, mx_junk], []) h := rfl
theorem e_X11_check_4 (s0 : Int32) (h : mx_H)  : mx_D (5, mm_X11_check, 4, [.ref 47, mx_junk, mx_junk, mx_junk], [.int s0]) h = mx_D (5, mm_X11_check, 7, [.ref 47, .int s0, .int 0, mx_junk], []) h := by
  refine Eq.trans (q_istore_n (L' := [.ref 47, .int s0, mx_junk, mx_junk]) dX11_check_4 (Nat.le_of_ble_eq_true rfl) rfl) ?_
  refine Eq.trans (q_iconst (x := 0) dX11_check_5 rfl) ?_
  refine Eq.trans (q_istore_n (L' := [.ref 47, .int s0, .int 0, mx_junk]) dX11_check_6 (Nat.le_of_ble_eq_true rfl) rfl) ?_
  rfl
theorem e_X11_check_7 (v1 : Int32) (v2 : Int32) (v3 : Value) (h : mx_H)  : mx_D (5, mm_X11_check, 7, [.ref 47, .int v1, .int v2, v3], []) h = if (1 <<< (v1 &&& 31)) ≤ v2 then mx_D (5, mm_X11_check, 80, [.ref 47, .int v1, .int 0, v3], []) h else ((mx_C mm_X11_deal [.ref 47, .int v2, .int v1] h).bind (fun o => mx_D (5, mm_X11_check, 20, [.ref 47, .int v1, .int v2, v3], o.1.toList ++ []) o.2)) := by
  refine Eq.trans (q_iload_n dX11_check_7 rfl) ?_
  refine Eq.trans (q_iconst (x := 1) dX11_check_8 rfl) ?_
  refine Eq.trans (q_iload_n dX11_check_9 rfl) ?_
  refine Eq.trans (q_ishl dX11_check_10) ?_
  refine Eq.trans (q_icmp_ge 78 dX11_check_11 rfl) (q_ite2 ?_ ?_)
  · refine Eq.trans (q_iconst (x := 0) dX11_check_78 rfl) ?_
    refine Eq.trans (q_istore_n (L' := [.ref 47, .int v1, .int 0, v3]) dX11_check_79 (Nat.le_of_ble_eq_true rfl) rfl) ?_
    rfl
  · refine Eq.trans (q_aload_n dX11_check_14 rfl rfl) ?_
    refine Eq.trans (q_iload_n dX11_check_15 rfl) ?_
    refine Eq.trans (q_iload_n dX11_check_16 rfl) ?_
    exact q_call0 (as := [.int v2, .int v1]) (rest := []) dX11_check_17 mx_inv_11_352 rfl rfl rfl ⟨Nat.le_of_ble_eq_true rfl, Nat.le_of_ble_eq_true rfl, (Nat.le_of_ble_eq_true rfl)⟩
theorem e_X11_check_20 (v1 : Int32) (v2 : Int32) (v3 : Value) (h : mx_H)  : mx_D (5, mm_X11_check, 20, [.ref 47, .int v1, .int v2, v3], []) h = (mx_C mm_X11_workAll [.ref 47] h).bind (fun o => mx_D (5, mm_X11_check, 24, [.ref 47, .int v1, .int v2, v3], o.1.toList ++ []) o.2) := by
  refine Eq.trans (q_aload_n dX11_check_20 rfl rfl) ?_
  exact q_call0 (as := []) (rest := []) dX11_check_21 mx_inv_11_349 rfl rfl rfl ⟨Nat.le_of_ble_eq_true rfl, Nat.le_of_ble_eq_true rfl, (Nat.le_of_ble_eq_true rfl)⟩
theorem e_X11_check_24 (v1 : Int32) (v2 : Int32) (v3 : Value) (h : mx_H)  : mx_D (5, mm_X11_check, 24, [.ref 47, .int v1, .int v2, v3], []) h = mx_D (5, mm_X11_check, 26, [.ref 47, .int v1, .int v2, .int 0], []) h := by
  refine Eq.trans (q_iconst (x := 0) dX11_check_24 rfl) ?_
  refine Eq.trans (q_istore_n (L' := [.ref 47, .int v1, .int v2, .int 0]) dX11_check_25 (Nat.le_of_ble_eq_true rfl) rfl) ?_
  rfl
theorem e_X11_check_26 (v1 : Int32) (v2 : Int32) (v3 : Int32) (h : mx_H)  : mx_D (5, mm_X11_check, 26, [.ref 47, .int v1, .int v2, .int v3], []) h = if (h.1 47 31) ≤ v3 then mx_D (5, mm_X11_check, 7, [.ref 47, .int v1, .int (v2 + 1), .int v3], []) h else (if mx_in v3 12 = true then if mx_in (h.1 65 v3.toNatClampNeg) 130 = true then if (h.1 68 ((h.1 65 v3.toNatClampNeg).toNatClampNeg)) = 1 then mx_D (5, mm_X11_check, 65, [.ref 47, .int v1, .int v2, .int v3], [.int 1, .int ((256 * v3) + v2), .ref 69]) h else (mx_D (5, mm_X11_check, 65, [.ref 47, .int v1, .int v2, .int v3], [.int 0, .int ((256 * v3) + v2), .ref 69]) h) else none else none) := by
  refine Eq.trans (q_iload_n dX11_check_26 rfl) ?_
  refine Eq.trans (q_aload_n dX11_check_27 rfl rfl) ?_
  refine Eq.trans (q_getf dX11_check_28 mx_fld_11_302 (gf_47_31 _)) ?_
  refine Eq.trans (q_icmp_ge 72 dX11_check_31 rfl) (q_ite2 ?_ ?_)
  · refine Eq.trans (q_iinc (x' := 1) (L' := [.ref 47, .int v1, .int (v2 + 1), .int v3]) dX11_check_72 rfl rfl rfl) ?_
    refine Eq.trans (q_goto 7 dX11_check_75 rfl) ?_
    rfl
  · refine Eq.trans (q_aload_n dX11_check_34 rfl rfl) ?_
    refine Eq.trans (q_getf dX11_check_35 mx_fld_11_74 (gf_47_37 _)) ?_
    refine Eq.trans (q_sipush (x := 256) dX11_check_38 rfl) ?_
    refine Eq.trans (q_iload_n dX11_check_41 rfl) ?_
    refine Eq.trans (q_imul dX11_check_42) ?_
    refine Eq.trans (q_iload_n dX11_check_43 rfl) ?_
    refine Eq.trans (q_iadd dX11_check_44) ?_
    refine Eq.trans (q_aload_n dX11_check_45 rfl rfl) ?_
    refine Eq.trans (q_getf dX11_check_46 mx_fld_11_71 (gf_47_36 _)) ?_
    refine Eq.trans (q_aload_n dX11_check_49 rfl rfl) ?_
    refine Eq.trans (q_getf dX11_check_50 mx_fld_11_62 (gf_47_32 _)) ?_
    refine Eq.trans (q_iload_n dX11_check_53 rfl) ?_
    refine Eq.trans (q_ld (w := 0) (by decide) dX11_check_54 (al_65 _ _)) (q_ite ?_)
    refine Eq.trans (q_ld (w := 0) (by decide) dX11_check_55 (al_68 _ _)) (q_ite ?_)
    refine Eq.trans (q_iconst (x := 1) dX11_check_56 rfl) ?_
    refine Eq.trans (q_icmp_ne 64 dX11_check_57 rfl) (q_ite2 ?_ ?_)
    · refine Eq.trans (q_iconst (x := 1) dX11_check_60 rfl) ?_
      refine Eq.trans (q_goto 65 dX11_check_61 rfl) ?_
      rfl
    · refine Eq.trans (q_iconst (x := 0) dX11_check_64 rfl) ?_
      rfl
theorem e_X11_check_65 (v1 : Int32) (v2 : Int32) (v3 : Int32) (s1 : Int32) (s2 : Int32) (h : mx_H)  : mx_D (5, mm_X11_check, 65, [.ref 47, .int v1, .int v2, .int v3], [.int s2, .int s1, .ref 69]) h = if mx_in s1 3072 = true then mx_D (5, mm_X11_check, 26, [.ref 47, .int v1, .int v2, .int (v3 + 1)], []) ((mx_u h.1 69 s1.toNatClampNeg (vp_nar .boolean s2)), h.2.1, h.2.2) else none := by
  refine Eq.trans (q_st (w := 2) (by decide) dX11_check_65 (as_69 _ _ _)) (q_ite ?_)
  refine Eq.trans (q_iinc (x' := 1) (L' := [.ref 47, .int v1, .int v2, .int (v3 + 1)]) dX11_check_66 rfl rfl rfl) ?_
  refine Eq.trans (q_goto 26 dX11_check_69 rfl) ?_
  rfl
theorem e_X11_check_80 (v1 : Int32) (v2 : Int32) (v3 : Value) (h : mx_H)  : mx_D (5, mm_X11_check, 80, [.ref 47, .int v1, .int v2, v3], []) h = if 12 ≤ v2 then (mx_C mm_X11_least [.ref 47, .int v1] h).bind (fun o => mx_D (5, mm_X11_check, 116, [.ref 47, .int v1, .int v2, v3], o.1.toList ++ []) o.2) else (if (h.1 47 31) ≤ v2 then mx_D (5, mm_X11_check, 104, [.ref 47, .int v1, .int v2, v3], [.int 0, .int v2, .ref 71]) h else (mx_D (5, mm_X11_check, 104, [.ref 47, .int v1, .int v2, v3], [.int 1, .int v2, .ref 71]) h)) := by
  refine Eq.trans (q_iload_n dX11_check_80 rfl) ?_
  refine Eq.trans (q_bipush (x := 12) dX11_check_81 rfl) ?_
  refine Eq.trans (q_icmp_ge 111 dX11_check_83 rfl) (q_ite2 ?_ ?_)
  · refine Eq.trans (q_aload_n dX11_check_111 rfl rfl) ?_
    refine Eq.trans (q_iload_n dX11_check_112 rfl) ?_
    exact q_call0 (as := [.int v1]) (rest := []) dX11_check_113 mx_inv_11_355 rfl rfl rfl ⟨Nat.le_of_ble_eq_true rfl, Nat.le_of_ble_eq_true rfl, (Nat.le_of_ble_eq_true rfl)⟩
  · refine Eq.trans (q_aload_n dX11_check_86 rfl rfl) ?_
    refine Eq.trans (q_getf dX11_check_87 mx_fld_11_81 (gf_47_40 _)) ?_
    refine Eq.trans (q_iload_n dX11_check_90 rfl) ?_
    refine Eq.trans (q_iload_n dX11_check_91 rfl) ?_
    refine Eq.trans (q_aload_n dX11_check_92 rfl rfl) ?_
    refine Eq.trans (q_getf dX11_check_93 mx_fld_11_302 (gf_47_31 _)) ?_
    refine Eq.trans (q_icmp_ge 103 dX11_check_96 rfl) (q_ite2 ?_ ?_)
    · refine Eq.trans (q_iconst (x := 0) dX11_check_103 rfl) ?_
      rfl
    · refine Eq.trans (q_iconst (x := 1) dX11_check_99 rfl) ?_
      refine Eq.trans (q_goto 104 dX11_check_100 rfl) ?_
      rfl
theorem e_X11_check_104 (v1 : Int32) (v2 : Int32) (v3 : Value) (s1 : Int32) (s2 : Int32) (h : mx_H)  : mx_D (5, mm_X11_check, 104, [.ref 47, .int v1, .int v2, v3], [.int s2, .int s1, .ref 71]) h = if mx_in s1 12 = true then mx_D (5, mm_X11_check, 80, [.ref 47, .int v1, .int (v2 + 1), v3], []) ((mx_u h.1 71 s1.toNatClampNeg (vp_nar .boolean s2)), h.2.1, h.2.2) else none := by
  refine Eq.trans (q_st (w := 2) (by decide) dX11_check_104 (as_71 _ _ _)) (q_ite ?_)
  refine Eq.trans (q_iinc (x' := 1) (L' := [.ref 47, .int v1, .int (v2 + 1), v3]) dX11_check_105 rfl rfl rfl) ?_
  refine Eq.trans (q_goto 80 dX11_check_108 rfl) ?_
  rfl
theorem e_X11_check_116 (v1 : Int32) (v2 : Int32) (v3 : Value) (s0 : Int32) (h : mx_H)  : mx_D (5, mm_X11_check, 116, [.ref 47, .int v1, .int v2, v3], [.int s0]) h = if s0 < 0 then mx_D (5, mm_X11_check, 174, [.ref 47, .int v1, .int s0, .int 0], []) ((mx_u h.1 47 38 2), h.2.1, h.2.2) else ((mx_C mm_X11_deal [.ref 47, .int s0, .int v1] ((mx_u h.1 47 38 1), h.2.1, h.2.2)).bind (fun o => mx_D (5, mm_X11_check, 132, [.ref 47, .int v1, .int s0, v3], o.1.toList ++ []) o.2)) := by
  refine Eq.trans (q_istore_n (L' := [.ref 47, .int v1, .int s0, v3]) dX11_check_116 (Nat.le_of_ble_eq_true rfl) rfl) ?_
  refine Eq.trans (q_iload_n dX11_check_117 rfl) ?_
  refine Eq.trans (q_if_lt 167 dX11_check_118 rfl) (q_ite2 ?_ ?_)
  · refine Eq.trans (q_aload_n dX11_check_167 rfl rfl) ?_
    refine Eq.trans (q_iconst (x := 2) dX11_check_168 rfl) ?_
    refine Eq.trans (q_putf dX11_check_169 mx_fld_11_332 (pf_47_38 _ _)) ?_
    refine Eq.trans (q_iconst (x := 0) dX11_check_172 rfl) ?_
    refine Eq.trans (q_istore_n (L' := [.ref 47, .int v1, .int s0, .int 0]) dX11_check_173 (Nat.le_of_ble_eq_true rfl) rfl) ?_
    rfl
  · refine Eq.trans (q_aload_n dX11_check_121 rfl rfl) ?_
    refine Eq.trans (q_iconst (x := 1) dX11_check_122 rfl) ?_
    refine Eq.trans (q_putf dX11_check_123 mx_fld_11_332 (pf_47_38 _ _)) ?_
    refine Eq.trans (q_aload_n dX11_check_126 rfl rfl) ?_
    refine Eq.trans (q_iload_n dX11_check_127 rfl) ?_
    refine Eq.trans (q_iload_n dX11_check_128 rfl) ?_
    exact q_call0 (as := [.int s0, .int v1]) (rest := []) dX11_check_129 mx_inv_11_352 rfl rfl rfl ⟨Nat.le_of_ble_eq_true rfl, Nat.le_of_ble_eq_true rfl, (Nat.le_of_ble_eq_true rfl)⟩
theorem e_X11_check_132 (v1 : Int32) (v2 : Int32) (v3 : Value) (h : mx_H)  : mx_D (5, mm_X11_check, 132, [.ref 47, .int v1, .int v2, v3], []) h = mx_D (5, mm_X11_check, 134, [.ref 47, .int v1, .int v2, .int 0], []) h := by
  refine Eq.trans (q_iconst (x := 0) dX11_check_132 rfl) ?_
  refine Eq.trans (q_istore_n (L' := [.ref 47, .int v1, .int v2, .int 0]) dX11_check_133 (Nat.le_of_ble_eq_true rfl) rfl) ?_
  rfl
theorem e_X11_check_134 (v1 : Int32) (v2 : Int32) (v3 : Int32) (h : mx_H)  : mx_D (5, mm_X11_check, 134, [.ref 47, .int v1, .int v2, .int v3], []) h = if (h.1 47 28) ≤ v3 then some (some (.int 1), h) else (if mx_in v3 12 = true then if mx_in (h.1 64 v3.toNatClampNeg) 130 = true then if mx_in v3 12 = true then mx_D (5, mm_X11_check, 134, [.ref 47, .int v1, .int v2, .int (v3 + 1)], []) ((mx_u h.1 70 v3.toNatClampNeg (h.1 68 ((h.1 64 v3.toNatClampNeg).toNatClampNeg))), h.2.1, h.2.2) else none else none else none) := by
  refine Eq.trans (q_iload_n dX11_check_134 rfl) ?_
  refine Eq.trans (q_aload_n dX11_check_135 rfl rfl) ?_
  refine Eq.trans (q_getf dX11_check_136 mx_fld_11_228 (gf_47_28 _)) ?_
  refine Eq.trans (q_icmp_ge 165 dX11_check_139 rfl) (q_ite2 ?_ ?_)
  · refine Eq.trans (q_iconst (x := 1) dX11_check_165 rfl) ?_
    exact q_retI dX11_check_166 rfl
  · refine Eq.trans (q_aload_n dX11_check_142 rfl rfl) ?_
    refine Eq.trans (q_getf dX11_check_143 mx_fld_11_78 (gf_47_39 _)) ?_
    refine Eq.trans (q_iload_n dX11_check_146 rfl) ?_
    refine Eq.trans (q_aload_n dX11_check_147 rfl rfl) ?_
    refine Eq.trans (q_getf dX11_check_148 mx_fld_11_71 (gf_47_36 _)) ?_
    refine Eq.trans (q_aload_n dX11_check_151 rfl rfl) ?_
    refine Eq.trans (q_getf dX11_check_152 mx_fld_11_59 (gf_47_30 _)) ?_
    refine Eq.trans (q_iload_n dX11_check_155 rfl) ?_
    refine Eq.trans (q_ld (w := 0) (by decide) dX11_check_156 (al_64 _ _)) (q_ite ?_)
    refine Eq.trans (q_ld (w := 0) (by decide) dX11_check_157 (al_68 _ _)) (q_ite ?_)
    refine Eq.trans (q_st (w := 0) (by decide) dX11_check_158 (as_70 _ _ _)) (q_ite ?_)
    refine Eq.trans (q_iinc (x' := 1) (L' := [.ref 47, .int v1, .int v2, .int (v3 + 1)]) dX11_check_159 rfl rfl rfl) ?_
    refine Eq.trans (q_goto 134 dX11_check_162 rfl) ?_
    rfl
theorem e_X11_check_174 (v1 : Int32) (v2 : Int32) (v3 : Int32) (h : mx_H)  : mx_D (5, mm_X11_check, 174, [.ref 47, .int v1, .int v2, .int v3], []) h = if (h.1 47 31) ≤ v3 then some (some (.int 0), h) else (if mx_in v3 12 = true then (mx_C mm_X11_least [.ref 47, .int v1] ((mx_u h.1 71 v3.toNatClampNeg (vp_nar .boolean 0)), h.2.1, h.2.2)).bind (fun o => mx_D (5, mm_X11_check, 199, [.ref 47, .int v1, .int v2, .int v3], o.1.toList ++ [.int v3, .ref 71]) o.2) else none) := by
  refine Eq.trans (q_iload_n dX11_check_174 rfl) ?_
  refine Eq.trans (q_aload_n dX11_check_175 rfl rfl) ?_
  refine Eq.trans (q_getf dX11_check_176 mx_fld_11_302 (gf_47_31 _)) ?_
  refine Eq.trans (q_icmp_ge 214 dX11_check_179 rfl) (q_ite2 ?_ ?_)
  · refine Eq.trans (q_iconst (x := 0) dX11_check_214 rfl) ?_
    exact q_retI dX11_check_215 rfl
  · refine Eq.trans (q_aload_n dX11_check_182 rfl rfl) ?_
    refine Eq.trans (q_getf dX11_check_183 mx_fld_11_81 (gf_47_40 _)) ?_
    refine Eq.trans (q_iload_n dX11_check_186 rfl) ?_
    refine Eq.trans (q_iconst (x := 0) dX11_check_187 rfl) ?_
    refine Eq.trans (q_st (w := 2) (by decide) dX11_check_188 (as_71 _ _ _)) (q_ite ?_)
    refine Eq.trans (q_aload_n dX11_check_189 rfl rfl) ?_
    refine Eq.trans (q_getf dX11_check_190 mx_fld_11_81 (gf_47_40 _)) ?_
    refine Eq.trans (q_iload_n dX11_check_193 rfl) ?_
    refine Eq.trans (q_aload_n dX11_check_194 rfl rfl) ?_
    refine Eq.trans (q_iload_n dX11_check_195 rfl) ?_
    exact q_call0 (as := [.int v1]) (rest := [.int v3, .ref 71]) dX11_check_196 mx_inv_11_355 rfl rfl rfl ⟨Nat.le_of_ble_eq_true rfl, Nat.le_of_ble_eq_true rfl, (Nat.le_of_ble_eq_true rfl)⟩
theorem e_X11_check_199 (v1 : Int32) (v2 : Int32) (v3 : Int32) (s1 : Int32) (s2 : Int32) (h : mx_H)  : mx_D (5, mm_X11_check, 199, [.ref 47, .int v1, .int v2, .int v3], [.int s2, .int s1, .ref 71]) h = if s2 < 0 then mx_D (5, mm_X11_check, 207, [.ref 47, .int v1, .int v2, .int v3], [.int 0, .int s1, .ref 71]) h else (mx_D (5, mm_X11_check, 207, [.ref 47, .int v1, .int v2, .int v3], [.int 1, .int s1, .ref 71]) h) := by
  refine Eq.trans (q_if_lt 206 dX11_check_199 rfl) (q_ite2 ?_ ?_)
  · refine Eq.trans (q_iconst (x := 0) dX11_check_206 rfl) ?_
    rfl
  · refine Eq.trans (q_iconst (x := 1) dX11_check_202 rfl) ?_
    refine Eq.trans (q_goto 207 dX11_check_203 rfl) ?_
    rfl
theorem e_X11_check_207 (v1 : Int32) (v2 : Int32) (v3 : Int32) (s1 : Int32) (s2 : Int32) (h : mx_H)  : mx_D (5, mm_X11_check, 207, [.ref 47, .int v1, .int v2, .int v3], [.int s2, .int s1, .ref 71]) h = if mx_in s1 12 = true then mx_D (5, mm_X11_check, 174, [.ref 47, .int v1, .int v2, .int (v3 + 1)], []) ((mx_u h.1 71 s1.toNatClampNeg (vp_nar .boolean s2)), h.2.1, h.2.2) else none := by
  refine Eq.trans (q_st (w := 2) (by decide) dX11_check_207 (as_71 _ _ _)) (q_ite ?_)
  refine Eq.trans (q_iinc (x' := 1) (L' := [.ref 47, .int v1, .int v2, .int (v3 + 1)]) dX11_check_208 rfl rfl rfl) ?_
  refine Eq.trans (q_goto 174 dX11_check_211 rfl) ?_
  rfl
theorem e_X11_value_0 (v1 : Int32) (h : mx_H)  : mx_D (2, mm_X11_value, 0, [.ref 47, .int v1], []) h = if (h.1 47 38) = 1 then (mx_C mm_X11_in [.int v1, .int 0, .int ((h.1 47 28) - 1)] h).bind (fun o => mx_D (2, mm_X11_value, 19, [.ref 47, .int v1], o.1.toList ++ []) o.2) else (mx_D (2, mm_X11_value, 31, [.ref 47, .int v1], []) h) := by
  refine Eq.trans (q_aload_n dX11_value_0 rfl rfl) ?_
  refine Eq.trans (q_getf dX11_value_1 mx_fld_11_332 (gf_47_38 _)) ?_
  refine Eq.trans (q_iconst (x := 1) dX11_value_4 rfl) ?_
  refine Eq.trans (q_icmp_ne 31 dX11_value_5 rfl) (q_ite2 ?_ ?_)
  · refine Eq.trans (q_iload_n dX11_value_8 rfl) ?_
    refine Eq.trans (q_iconst (x := 0) dX11_value_9 rfl) ?_
    refine Eq.trans (q_aload_n dX11_value_10 rfl rfl) ?_
    refine Eq.trans (q_getf dX11_value_11 mx_fld_11_228 (gf_47_28 _)) ?_
    refine Eq.trans (q_iconst (x := 1) dX11_value_14 rfl) ?_
    refine Eq.trans (q_isub dX11_value_15) ?_
    exact q_call1 (as := [.int v1, .int 0, .int ((h.1 47 28) - 1)]) (rest := []) dX11_value_16 mx_inv_11_84 rfl rfl ⟨Nat.le_of_ble_eq_true rfl, Nat.le_of_ble_eq_true rfl, (Nat.le_of_ble_eq_true rfl)⟩
  · rfl
theorem c_X11_value (v1 : Int32) (h : mx_H) : mx_C mm_X11_value [.ref 47, .int v1] h = mx_D (2, mm_X11_value, 0, [.ref 47, .int v1], []) h := rfl
theorem e_X11_value_19 (v1 : Int32) (s0 : Int32) (h : mx_H)  : mx_D (2, mm_X11_value, 19, [.ref 47, .int v1], [.int s0]) h = if s0 = 0 then mx_D (2, mm_X11_value, 31, [.ref 47, .int v1], []) h else (if mx_in v1 12 = true then mx_D (2, mm_X11_value, 32, [.ref 47, .int v1], [.int (h.1 70 v1.toNatClampNeg)]) h else none) := by
  refine Eq.trans (q_if_eq 31 dX11_value_19 rfl) (q_ite2 ?_ ?_)
  · rfl
  · refine Eq.trans (q_aload_n dX11_value_22 rfl rfl) ?_
    refine Eq.trans (q_getf dX11_value_23 mx_fld_11_78 (gf_47_39 _)) ?_
    refine Eq.trans (q_iload_n dX11_value_26 rfl) ?_
    refine Eq.trans (q_ld (w := 0) (by decide) dX11_value_27 (al_70 _ _)) (q_ite ?_)
    refine Eq.trans (q_goto 32 dX11_value_28 rfl) ?_
    rfl
theorem e_X11_value_31 (v1 : Int32) (h : mx_H)  : mx_D (2, mm_X11_value, 31, [.ref 47, .int v1], []) h = mx_D (2, mm_X11_value, 32, [.ref 47, .int v1], [.int ((-1))]) h := by
  refine Eq.trans (q_iconst (x := (-1)) dX11_value_31 rfl) ?_
  rfl
theorem e_X11_value_32 (v1 : Int32) (s0 : Int32) (h : mx_H)  : mx_D (2, mm_X11_value, 32, [.ref 47, .int v1], [.int s0]) h = some (some (.int s0), h) := by
  exact q_retI dX11_value_32 rfl
theorem e_X11_core_0 (v1 : Int32) (h : mx_H)  : mx_D (2, mm_X11_core, 0, [.ref 47, .int v1], []) h = if (h.1 47 38) = 2 then (mx_C mm_X11_in [.int v1, .int 0, .int ((h.1 47 31) - 1)] h).bind (fun o => mx_D (2, mm_X11_core, 19, [.ref 47, .int v1], o.1.toList ++ []) o.2) else (mx_D (2, mm_X11_core, 35, [.ref 47, .int v1], []) h) := by
  refine Eq.trans (q_aload_n dX11_core_0 rfl rfl) ?_
  refine Eq.trans (q_getf dX11_core_1 mx_fld_11_332 (gf_47_38 _)) ?_
  refine Eq.trans (q_iconst (x := 2) dX11_core_4 rfl) ?_
  refine Eq.trans (q_icmp_ne 35 dX11_core_5 rfl) (q_ite2 ?_ ?_)
  · refine Eq.trans (q_iload_n dX11_core_8 rfl) ?_
    refine Eq.trans (q_iconst (x := 0) dX11_core_9 rfl) ?_
    refine Eq.trans (q_aload_n dX11_core_10 rfl rfl) ?_
    refine Eq.trans (q_getf dX11_core_11 mx_fld_11_302 (gf_47_31 _)) ?_
    refine Eq.trans (q_iconst (x := 1) dX11_core_14 rfl) ?_
    refine Eq.trans (q_isub dX11_core_15) ?_
    exact q_call1 (as := [.int v1, .int 0, .int ((h.1 47 31) - 1)]) (rest := []) dX11_core_16 mx_inv_11_84 rfl rfl ⟨Nat.le_of_ble_eq_true rfl, Nat.le_of_ble_eq_true rfl, (Nat.le_of_ble_eq_true rfl)⟩
  · rfl
theorem c_X11_core (v1 : Int32) (h : mx_H) : mx_C mm_X11_core [.ref 47, .int v1] h = mx_D (2, mm_X11_core, 0, [.ref 47, .int v1], []) h := rfl
theorem e_X11_core_19 (v1 : Int32) (s0 : Int32) (h : mx_H)  : mx_D (2, mm_X11_core, 19, [.ref 47, .int v1], [.int s0]) h = if s0 = 0 then mx_D (2, mm_X11_core, 35, [.ref 47, .int v1], []) h else (if mx_in v1 12 = true then if (h.1 71 v1.toNatClampNeg) = 0 then mx_D (2, mm_X11_core, 35, [.ref 47, .int v1], []) h else (mx_D (2, mm_X11_core, 36, [.ref 47, .int v1], [.int 1]) h) else none) := by
  refine Eq.trans (q_if_eq 35 dX11_core_19 rfl) (q_ite2 ?_ ?_)
  · rfl
  · refine Eq.trans (q_aload_n dX11_core_22 rfl rfl) ?_
    refine Eq.trans (q_getf dX11_core_23 mx_fld_11_81 (gf_47_40 _)) ?_
    refine Eq.trans (q_iload_n dX11_core_26 rfl) ?_
    refine Eq.trans (q_ld (w := 2) (by decide) dX11_core_27 (al_71 _ _)) (q_ite ?_)
    refine Eq.trans (q_if_eq 35 dX11_core_28 rfl) (q_ite2 ?_ ?_)
    · rfl
    · refine Eq.trans (q_iconst (x := 1) dX11_core_31 rfl) ?_
      refine Eq.trans (q_goto 36 dX11_core_32 rfl) ?_
      rfl
theorem e_X11_core_35 (v1 : Int32) (h : mx_H)  : mx_D (2, mm_X11_core, 35, [.ref 47, .int v1], []) h = mx_D (2, mm_X11_core, 36, [.ref 47, .int v1], [.int 0]) h := by
  refine Eq.trans (q_iconst (x := 0) dX11_core_35 rfl) ?_
  rfl
theorem e_X11_core_36 (v1 : Int32) (s0 : Int32) (h : mx_H)  : mx_D (2, mm_X11_core, 36, [.ref 47, .int v1], [.int s0]) h = if narrow .boolean (.int s0) = .int s0 then some (some (.int s0), h) else none := by
  exact q_ret dX11_core_36 rfl
theorem e_X11_terms_0  (h : mx_H)  : mx_D (1, mm_X11_terms, 0, [.ref 47], []) h = some (some (.int (h.1 47 8)), h) := by
  refine Eq.trans (q_aload_n dX11_terms_0 rfl rfl) ?_
  refine Eq.trans (q_getf dX11_terms_1 mx_fld_11_326 (gf_47_8 _)) ?_
  exact q_retI dX11_terms_4 rfl
theorem c_X11_terms  (h : mx_H) : mx_C mm_X11_terms [.ref 47] h = mx_D (1, mm_X11_terms, 0, [.ref 47], []) h := rfl
theorem e_X11_count_0 (v1 : Int32) (h : mx_H)  : mx_D (1, mm_X11_count, 0, [.ref 47, .int v1], []) h = if v1 = 0 then mx_D (1, mm_X11_count, 36, [.ref 47, .int v1], [.int (h.1 47 28)]) h else (if v1 = 1 then mx_D (1, mm_X11_count, 36, [.ref 47, .int v1], [.int (h.1 47 31)]) h else (if v1 = 2 then mx_D (1, mm_X11_count, 36, [.ref 47, .int v1], [.int (h.1 47 33)]) h else (mx_D (1, mm_X11_count, 36, [.ref 47, .int v1], [.int ((-1))]) h))) := by
  refine Eq.trans (q_iload_n dX11_count_0 rfl) ?_
  refine Eq.trans (q_if_ne 11 dX11_count_1 rfl) (q_ite2 ?_ ?_)
  · refine Eq.trans (q_aload_n dX11_count_4 rfl rfl) ?_
    refine Eq.trans (q_getf dX11_count_5 mx_fld_11_228 (gf_47_28 _)) ?_
    refine Eq.trans (q_goto 36 dX11_count_8 rfl) ?_
    rfl
  · refine Eq.trans (q_iload_n dX11_count_11 rfl) ?_
    refine Eq.trans (q_iconst (x := 1) dX11_count_12 rfl) ?_
    refine Eq.trans (q_icmp_ne 23 dX11_count_13 rfl) (q_ite2 ?_ ?_)
    · refine Eq.trans (q_aload_n dX11_count_16 rfl rfl) ?_
      refine Eq.trans (q_getf dX11_count_17 mx_fld_11_302 (gf_47_31 _)) ?_
      refine Eq.trans (q_goto 36 dX11_count_20 rfl) ?_
      rfl
    · refine Eq.trans (q_iload_n dX11_count_23 rfl) ?_
      refine Eq.trans (q_iconst (x := 2) dX11_count_24 rfl) ?_
      refine Eq.trans (q_icmp_ne 35 dX11_count_25 rfl) (q_ite2 ?_ ?_)
      · refine Eq.trans (q_aload_n dX11_count_28 rfl rfl) ?_
        refine Eq.trans (q_getf dX11_count_29 mx_fld_11_305 (gf_47_33 _)) ?_
        refine Eq.trans (q_goto 36 dX11_count_32 rfl) ?_
        rfl
      · refine Eq.trans (q_iconst (x := (-1)) dX11_count_35 rfl) ?_
        rfl
theorem c_X11_count (v1 : Int32) (h : mx_H) : mx_C mm_X11_count [.ref 47, .int v1] h = mx_D (1, mm_X11_count, 0, [.ref 47, .int v1], []) h := rfl
theorem e_X11_count_36 (v1 : Int32) (s0 : Int32) (h : mx_H)  : mx_D (1, mm_X11_count, 36, [.ref 47, .int v1], [.int s0]) h = some (some (.int s0), h) := by
  exact q_retI dX11_count_36 rfl
