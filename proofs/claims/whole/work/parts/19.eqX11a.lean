theorem e_X11_in_0 (v0 : Int32) (v1 : Int32) (v2 : Int32) (h : mx_H)  : mx_D (1, mm_X11_in, 0, [.int v0, .int v1, .int v2], []) h = if v0 < v1 then mx_D (1, mm_X11_in, 14, [.int v0, .int v1, .int v2], []) h else (if v2 < v0 then mx_D (1, mm_X11_in, 14, [.int v0, .int v1, .int v2], []) h else (mx_D (1, mm_X11_in, 15, [.int v0, .int v1, .int v2], [.int 1]) h)) := by
  refine Eq.trans (q_iload_n dX11_in_0 rfl) ?_
  refine Eq.trans (q_iload_n dX11_in_1 rfl) ?_
  refine Eq.trans (q_icmp_lt 14 dX11_in_2 rfl) (q_ite2 ?_ ?_)
  · rfl
  · refine Eq.trans (q_iload_n dX11_in_5 rfl) ?_
    refine Eq.trans (q_iload_n dX11_in_6 rfl) ?_
    refine Eq.trans (q_icmp_gt 14 dX11_in_7 rfl) (q_ite2 ?_ ?_)
    · rfl
    · refine Eq.trans (q_iconst (x := 1) dX11_in_10 rfl) ?_
      refine Eq.trans (q_goto 15 dX11_in_11 rfl) ?_
      rfl
theorem c_X11_in (v0 : Int32) (v1 : Int32) (v2 : Int32) (h : mx_H) : mx_C mm_X11_in [.int v0, .int v1, .int v2] h = mx_D (1, mm_X11_in, 0, [.int v0, .int v1, .int v2], []) h := rfl
theorem e_X11_in_14 (v0 : Int32) (v1 : Int32) (v2 : Int32) (h : mx_H)  : mx_D (1, mm_X11_in, 14, [.int v0, .int v1, .int v2], []) h = mx_D (1, mm_X11_in, 15, [.int v0, .int v1, .int v2], [.int 0]) h := by
  refine Eq.trans (q_iconst (x := 0) dX11_in_14 rfl) ?_
  rfl
theorem e_X11_in_15 (v0 : Int32) (v1 : Int32) (v2 : Int32) (s0 : Int32) (h : mx_H)  : mx_D (1, mm_X11_in, 15, [.int v0, .int v1, .int v2], [.int s0]) h = if narrow .boolean (.int s0) = .int s0 then some (some (.int s0), h) else none := by
  exact q_ret dX11_in_15 rfl
theorem e_X11_type_0 (v1 : Int32) (v2 : Int32) (h : mx_H)  : mx_D (2, mm_X11_type, 0, [.ref 47, .int v1, .int v2, mx_junk, mx_junk], []) h = (mx_C mm_X11_in [.int v2, .int 1, .int 4] h).bind (fun o => mx_D (2, mm_X11_type, 6, [.ref 47, .int v1, .int v2, mx_junk, mx_junk], o.1.toList ++ []) o.2) := by
  refine Eq.trans (q_iload_n dX11_type_0 rfl) ?_
  refine Eq.trans (q_iconst (x := 1) dX11_type_1 rfl) ?_
  refine Eq.trans (q_iconst (x := 4) dX11_type_2 rfl) ?_
  exact q_call1 (as := [.int v2, .int 1, .int 4]) (rest := []) dX11_type_3 mx_inv_11_84 rfl rfl ⟨Nat.le_of_ble_eq_true rfl, Nat.le_of_ble_eq_true rfl, (Nat.le_of_ble_eq_true rfl)⟩
theorem c_X11_type (v1 : Int32) (v2 : Int32) (h : mx_H) : mx_C mm_X11_type [.ref 47, .int v1, .int v2] h = mx_D (2, mm_X11_type, 0, [.ref 47, .int v1, .int v2, mx_junk, mx_junk], []) h := rfl
theorem e_X11_type_6 (v1 : Int32) (v2 : Int32) (s0 : Int32) (h : mx_H)  : mx_D (2, mm_X11_type, 6, [.ref 47, .int v1, .int v2, mx_junk, mx_junk], [.int s0]) h = if s0 = 0 then mx_D (2, mm_X11_type, 24, [.ref 47, .int v1, .int v2, mx_junk, mx_junk], []) h else (if 120 < ((h.1 47 1) + v2) then mx_D (2, mm_X11_type, 24, [.ref 47, .int v1, .int v2, mx_junk, mx_junk], []) h else (mx_D (2, mm_X11_type, 25, [.ref 47, .int v1, .int v2, mx_junk, mx_junk], [.int 1]) h)) := by
  refine Eq.trans (q_if_eq 24 dX11_type_6 rfl) (q_ite2 ?_ ?_)
  · rfl
  · refine Eq.trans (q_aload_n dX11_type_9 rfl rfl) ?_
    refine Eq.trans (q_getf dX11_type_10 mx_fld_11_88 (gf_47_1 _)) ?_
    refine Eq.trans (q_iload_n dX11_type_13 rfl) ?_
    refine Eq.trans (q_iadd dX11_type_14) ?_
    refine Eq.trans (q_bipush (x := 120) dX11_type_15 rfl) ?_
    refine Eq.trans (q_icmp_gt 24 dX11_type_17 rfl) (q_ite2 ?_ ?_)
    · rfl
    · refine Eq.trans (q_iconst (x := 1) dX11_type_20 rfl) ?_
      refine Eq.trans (q_goto 25 dX11_type_21 rfl) ?_
      rfl
theorem e_X11_type_24 (v1 : Int32) (v2 : Int32) (h : mx_H)  : mx_D (2, mm_X11_type, 24, [.ref 47, .int v1, .int v2, mx_junk, mx_junk], []) h = mx_D (2, mm_X11_type, 25, [.ref 47, .int v1, .int v2, mx_junk, mx_junk], [.int 0]) h := by
  refine Eq.trans (q_iconst (x := 0) dX11_type_24 rfl) ?_
  rfl
theorem e_X11_type_25 (v1 : Int32) (v2 : Int32) (s0 : Int32) (h : mx_H)  : mx_D (2, mm_X11_type, 25, [.ref 47, .int v1, .int v2, mx_junk, mx_junk], [.int s0]) h = mx_D (2, mm_X11_type, 29, [.ref 47, .int v1, .int v2, .int s0, .int 0], []) h := by
  refine Eq.trans (q_istore_n (L' := [.ref 47, .int v1, .int v2, .int s0, mx_junk]) dX11_type_25 (Nat.le_of_ble_eq_true rfl) rfl) ?_
  refine Eq.trans (q_iconst (x := 0) dX11_type_26 rfl) ?_
  refine Eq.trans (q_istore (L' := [.ref 47, .int v1, .int v2, .int s0, .int 0]) dX11_type_27 (Nat.le_of_ble_eq_true rfl) rfl) ?_
  rfl
theorem e_X11_type_29 (v1 : Int32) (v2 : Int32) (v3 : Int32) (v4 : Int32) (h : mx_H)  : mx_D (2, mm_X11_type, 29, [.ref 47, .int v1, .int v2, .int v3, .int v4], []) h = if v2 ≤ v4 then mx_D (2, mm_X11_type, 64, [.ref 47, .int v1, .int v2, .int v3, .int v4], []) h else (if v3 = 0 then mx_D (2, mm_X11_type, 64, [.ref 47, .int v1, .int v2, .int v3, .int v4], []) h else ((mx_C mm_X11_in [.int ((v1 >>> ((8 * v4) &&& 31)) &&& 255), .int 32, .int 126] h).bind (fun o => mx_D (2, mm_X11_type, 57, [.ref 47, .int v1, .int v2, .int v3, .int v4], o.1.toList ++ []) o.2))) := by
  refine Eq.trans (q_iload dX11_type_29 rfl) ?_
  refine Eq.trans (q_iload_n dX11_type_31 rfl) ?_
  refine Eq.trans (q_icmp_ge 64 dX11_type_32 rfl) (q_ite2 ?_ ?_)
  · rfl
  · refine Eq.trans (q_iload_n dX11_type_35 rfl) ?_
    refine Eq.trans (q_if_eq 64 dX11_type_36 rfl) (q_ite2 ?_ ?_)
    · rfl
    · refine Eq.trans (q_iload_n dX11_type_39 rfl) ?_
      refine Eq.trans (q_bipush (x := 8) dX11_type_40 rfl) ?_
      refine Eq.trans (q_iload dX11_type_42 rfl) ?_
      refine Eq.trans (q_imul dX11_type_44) ?_
      refine Eq.trans (q_ishr dX11_type_45) ?_
      refine Eq.trans (q_sipush (x := 255) dX11_type_46 rfl) ?_
      refine Eq.trans (q_iand dX11_type_49) ?_
      refine Eq.trans (q_bipush (x := 32) dX11_type_50 rfl) ?_
      refine Eq.trans (q_bipush (x := 126) dX11_type_52 rfl) ?_
      exact q_call1 (as := [.int ((v1 >>> ((8 * v4) &&& 31)) &&& 255), .int 32, .int 126]) (rest := []) dX11_type_54 mx_inv_11_84 rfl rfl ⟨Nat.le_of_ble_eq_true rfl, Nat.le_of_ble_eq_true rfl, (Nat.le_of_ble_eq_true rfl)⟩
theorem e_X11_type_57 (v1 : Int32) (v2 : Int32) (v3 : Int32) (v4 : Int32) (s0 : Int32) (h : mx_H)  : mx_D (2, mm_X11_type, 57, [.ref 47, .int v1, .int v2, .int v3, .int v4], [.int s0]) h = mx_D (2, mm_X11_type, 29, [.ref 47, .int v1, .int v2, .int s0, .int (v4 + 1)], []) h := by
  refine Eq.trans (q_istore_n (L' := [.ref 47, .int v1, .int v2, .int s0, .int v4]) dX11_type_57 (Nat.le_of_ble_eq_true rfl) rfl) ?_
  refine Eq.trans (q_iinc (x' := 1) (L' := [.ref 47, .int v1, .int v2, .int s0, .int (v4 + 1)]) dX11_type_58 rfl rfl rfl) ?_
  refine Eq.trans (q_goto 29 dX11_type_61 rfl) ?_
  rfl
theorem e_X11_type_64 (v1 : Int32) (v2 : Int32) (v3 : Int32) (v4 : Int32) (h : mx_H)  : mx_D (2, mm_X11_type, 64, [.ref 47, .int v1, .int v2, .int v3, .int v4], []) h = mx_D (2, mm_X11_type, 69, [.ref 47, .int v1, .int v2, .int v3, .int (v2 - 1)], []) h := by
  refine Eq.trans (q_iload_n dX11_type_64 rfl) ?_
  refine Eq.trans (q_iconst (x := 1) dX11_type_65 rfl) ?_
  refine Eq.trans (q_isub dX11_type_66) ?_
  refine Eq.trans (q_istore (L' := [.ref 47, .int v1, .int v2, .int v3, .int (v2 - 1)]) dX11_type_67 (Nat.le_of_ble_eq_true rfl) rfl) ?_
  rfl
theorem e_X11_type_69 (v1 : Int32) (v2 : Int32) (v3 : Int32) (v4 : Int32) (h : mx_H)  : mx_D (2, mm_X11_type, 69, [.ref 47, .int v1, .int v2, .int v3, .int v4], []) h = if v4 < 0 then mx_D (2, mm_X11_type, 114, [.ref 47, .int v1, .int v2, .int v3, .int v4], []) h else (if v3 = 0 then mx_D (2, mm_X11_type, 114, [.ref 47, .int v1, .int v2, .int v3, .int v4], []) h else (if mx_in (h.1 47 1) 120 = true then mx_D (2, mm_X11_type, 69, [.ref 47, .int v1, .int v2, .int v3, .int (v4 + (-1))], []) ((mx_u (mx_u h.1 48 ((h.1 47 1).toNatClampNeg) ((v1 >>> ((8 * v4) &&& 31)) &&& 255)) 47 1 (((mx_u h.1 48 ((h.1 47 1).toNatClampNeg) ((v1 >>> ((8 * v4) &&& 31)) &&& 255)) 47 1) + 1)), h.2.1, h.2.2) else none)) := by
  refine Eq.trans (q_iload dX11_type_69 rfl) ?_
  refine Eq.trans (q_if_lt 114 dX11_type_71 rfl) (q_ite2 ?_ ?_)
  · rfl
  · refine Eq.trans (q_iload_n dX11_type_74 rfl) ?_
    refine Eq.trans (q_if_eq 114 dX11_type_75 rfl) (q_ite2 ?_ ?_)
    · rfl
    · refine Eq.trans (q_aload_n dX11_type_78 rfl rfl) ?_
      refine Eq.trans (q_getf dX11_type_79 mx_fld_11_7 (gf_47_0 _)) ?_
      refine Eq.trans (q_aload_n dX11_type_82 rfl rfl) ?_
      refine Eq.trans (q_getf dX11_type_83 mx_fld_11_88 (gf_47_1 _)) ?_
      refine Eq.trans (q_iload_n dX11_type_86 rfl) ?_
      refine Eq.trans (q_bipush (x := 8) dX11_type_87 rfl) ?_
      refine Eq.trans (q_iload dX11_type_89 rfl) ?_
      refine Eq.trans (q_imul dX11_type_91) ?_
      refine Eq.trans (q_ishr dX11_type_92) ?_
      refine Eq.trans (q_sipush (x := 255) dX11_type_93 rfl) ?_
      refine Eq.trans (q_iand dX11_type_96) ?_
      refine Eq.trans (q_st (w := 0) (by decide) dX11_type_97 (as_48 _ _ _)) (q_ite ?_)
      refine Eq.trans (q_aload_n dX11_type_98 rfl rfl) ?_
      refine Eq.trans (q_aload_n dX11_type_99 rfl rfl) ?_
      refine Eq.trans (q_getf dX11_type_100 mx_fld_11_88 (gf_47_1 _)) ?_
      refine Eq.trans (q_iconst (x := 1) dX11_type_103 rfl) ?_
      refine Eq.trans (q_iadd dX11_type_104) ?_
      refine Eq.trans (q_putf dX11_type_105 mx_fld_11_88 (pf_47_1 _ _)) ?_
      refine Eq.trans (q_iinc (x' := (-1)) (L' := [.ref 47, .int v1, .int v2, .int v3, .int (v4 + (-1))]) dX11_type_108 rfl rfl rfl) ?_
      refine Eq.trans (q_goto 69 dX11_type_111 rfl) ?_
      rfl
theorem e_X11_type_114 (v1 : Int32) (v2 : Int32) (v3 : Int32) (v4 : Int32) (h : mx_H)  : mx_D (2, mm_X11_type, 114, [.ref 47, .int v1, .int v2, .int v3, .int v4], []) h = if narrow .boolean (.int v3) = .int v3 then some (some (.int v3), h) else none := by
  refine Eq.trans (q_iload_n dX11_type_114 rfl) ?_
  exact q_ret dX11_type_115 rfl
theorem e_X11_isLetter_0 (v0 : Int32) (h : mx_H)  : mx_D (2, mm_X11_isLetter, 0, [.int v0], []) h = (mx_C mm_X11_in [.int v0, .int 65, .int 90] h).bind (fun o => mx_D (2, mm_X11_isLetter, 8, [.int v0], o.1.toList ++ []) o.2) := by
  refine Eq.trans (q_iload_n dX11_isLetter_0 rfl) ?_
  refine Eq.trans (q_bipush (x := 65) dX11_isLetter_1 rfl) ?_
  refine Eq.trans (q_bipush (x := 90) dX11_isLetter_3 rfl) ?_
  exact q_call1 (as := [.int v0, .int 65, .int 90]) (rest := []) dX11_isLetter_5 mx_inv_11_84 rfl rfl ⟨Nat.le_of_ble_eq_true rfl, Nat.le_of_ble_eq_true rfl, (Nat.le_of_ble_eq_true rfl)⟩
theorem c_X11_isLetter (v0 : Int32) (h : mx_H) : mx_C mm_X11_isLetter [.int v0] h = mx_D (2, mm_X11_isLetter, 0, [.int v0], []) h := rfl
theorem e_X11_isLetter_8 (v0 : Int32) (s0 : Int32) (h : mx_H)  : mx_D (2, mm_X11_isLetter, 8, [.int v0], [.int s0]) h = if s0 = 0 then (mx_C mm_X11_in [.int v0, .int 97, .int 122] h).bind (fun o => mx_D (2, mm_X11_isLetter, 19, [.int v0], o.1.toList ++ []) o.2) else (mx_D (2, mm_X11_isLetter, 22, [.int v0], []) h) := by
  refine Eq.trans (q_if_ne 22 dX11_isLetter_8 rfl) (q_ite2 ?_ ?_)
  · refine Eq.trans (q_iload_n dX11_isLetter_11 rfl) ?_
    refine Eq.trans (q_bipush (x := 97) dX11_isLetter_12 rfl) ?_
    refine Eq.trans (q_bipush (x := 122) dX11_isLetter_14 rfl) ?_
    exact q_call1 (as := [.int v0, .int 97, .int 122]) (rest := []) dX11_isLetter_16 mx_inv_11_84 rfl rfl ⟨Nat.le_of_ble_eq_true rfl, Nat.le_of_ble_eq_true rfl, (Nat.le_of_ble_eq_true rfl)⟩
  · rfl
theorem e_X11_isLetter_19 (v0 : Int32) (s0 : Int32) (h : mx_H)  : mx_D (2, mm_X11_isLetter, 19, [.int v0], [.int s0]) h = if s0 = 0 then mx_D (2, mm_X11_isLetter, 27, [.int v0], [.int 0]) h else (mx_D (2, mm_X11_isLetter, 22, [.int v0], []) h) := by
  refine Eq.trans (q_if_eq 26 dX11_isLetter_19 rfl) (q_ite2 ?_ ?_)
  · refine Eq.trans (q_iconst (x := 0) dX11_isLetter_26 rfl) ?_
    rfl
  · rfl
theorem e_X11_isLetter_22 (v0 : Int32) (h : mx_H)  : mx_D (2, mm_X11_isLetter, 22, [.int v0], []) h = mx_D (2, mm_X11_isLetter, 27, [.int v0], [.int 1]) h := by
  refine Eq.trans (q_iconst (x := 1) dX11_isLetter_22 rfl) ?_
  refine Eq.trans (q_goto 27 dX11_isLetter_23 rfl) ?_
  rfl
theorem e_X11_isLetter_27 (v0 : Int32) (s0 : Int32) (h : mx_H)  : mx_D (2, mm_X11_isLetter, 27, [.int v0], [.int s0]) h = if narrow .boolean (.int s0) = .int s0 then some (some (.int s0), h) else none := by
  exact q_ret dX11_isLetter_27 rfl
theorem e_X11_isDigit_0 (v0 : Int32) (h : mx_H)  : mx_D (2, mm_X11_isDigit, 0, [.int v0], []) h = (mx_C mm_X11_in [.int v0, .int 48, .int 57] h).bind (fun o => mx_D (2, mm_X11_isDigit, 8, [.int v0], o.1.toList ++ []) o.2) := by
  refine Eq.trans (q_iload_n dX11_isDigit_0 rfl) ?_
  refine Eq.trans (q_bipush (x := 48) dX11_isDigit_1 rfl) ?_
  refine Eq.trans (q_bipush (x := 57) dX11_isDigit_3 rfl) ?_
  exact q_call1 (as := [.int v0, .int 48, .int 57]) (rest := []) dX11_isDigit_5 mx_inv_11_84 rfl rfl ⟨Nat.le_of_ble_eq_true rfl, Nat.le_of_ble_eq_true rfl, (Nat.le_of_ble_eq_true rfl)⟩
theorem c_X11_isDigit (v0 : Int32) (h : mx_H) : mx_C mm_X11_isDigit [.int v0] h = mx_D (2, mm_X11_isDigit, 0, [.int v0], []) h := rfl
theorem e_X11_isDigit_8 (v0 : Int32) (s0 : Int32) (h : mx_H)  : mx_D (2, mm_X11_isDigit, 8, [.int v0], [.int s0]) h = if narrow .boolean (.int s0) = .int s0 then some (some (.int s0), h) else none := by
  exact q_ret dX11_isDigit_8 rfl
theorem e_X11_isSign_0 (v0 : Int32) (h : mx_H)  : mx_D (3, mm_X11_isSign, 0, [.int v0], []) h = (mx_C mm_X11_isLetter [.int v0] h).bind (fun o => mx_D (3, mm_X11_isSign, 4, [.int v0], o.1.toList ++ []) o.2) := by
  refine Eq.trans (q_iload_n dX11_isSign_0 rfl) ?_
  exact q_call1 (as := [.int v0]) (rest := []) dX11_isSign_1 mx_inv_11_92 rfl rfl ⟨Nat.le_of_ble_eq_true rfl, Nat.le_of_ble_eq_true rfl, (Nat.le_of_ble_eq_true rfl)⟩
theorem c_X11_isSign (v0 : Int32) (h : mx_H) : mx_C mm_X11_isSign [.int v0] h = mx_D (3, mm_X11_isSign, 0, [.int v0], []) h := rfl
theorem e_X11_isSign_4 (v0 : Int32) (s0 : Int32) (h : mx_H)  : mx_D (3, mm_X11_isSign, 4, [.int v0], [.int s0]) h = if s0 = 0 then (mx_C mm_X11_isDigit [.int v0] h).bind (fun o => mx_D (3, mm_X11_isSign, 11, [.int v0], o.1.toList ++ []) o.2) else (mx_D (3, mm_X11_isSign, 44, [.int v0], []) h) := by
  refine Eq.trans (q_if_ne 44 dX11_isSign_4 rfl) (q_ite2 ?_ ?_)
  · refine Eq.trans (q_iload_n dX11_isSign_7 rfl) ?_
    exact q_call1 (as := [.int v0]) (rest := []) dX11_isSign_8 mx_inv_11_96 rfl rfl ⟨Nat.le_of_ble_eq_true rfl, Nat.le_of_ble_eq_true rfl, (Nat.le_of_ble_eq_true rfl)⟩
  · rfl
theorem e_X11_isSign_11 (v0 : Int32) (s0 : Int32) (h : mx_H)  : mx_D (3, mm_X11_isSign, 11, [.int v0], [.int s0]) h = if s0 = 0 then if v0 = 45 then mx_D (3, mm_X11_isSign, 44, [.int v0], []) h else (if v0 = 95 then mx_D (3, mm_X11_isSign, 44, [.int v0], []) h else (if v0 = 61 then mx_D (3, mm_X11_isSign, 44, [.int v0], []) h else (if v0 = 62 then mx_D (3, mm_X11_isSign, 44, [.int v0], []) h else (if v0 = 35 then mx_D (3, mm_X11_isSign, 44, [.int v0], []) h else (mx_D (3, mm_X11_isSign, 49, [.int v0], [.int 0]) h))))) else (mx_D (3, mm_X11_isSign, 44, [.int v0], []) h) := by
  refine Eq.trans (q_if_ne 44 dX11_isSign_11 rfl) (q_ite2 ?_ ?_)
  · refine Eq.trans (q_iload_n dX11_isSign_14 rfl) ?_
    refine Eq.trans (q_bipush (x := 45) dX11_isSign_15 rfl) ?_
    refine Eq.trans (q_icmp_eq 44 dX11_isSign_17 rfl) (q_ite2 ?_ ?_)
    · rfl
    · refine Eq.trans (q_iload_n dX11_isSign_20 rfl) ?_
      refine Eq.trans (q_bipush (x := 95) dX11_isSign_21 rfl) ?_
      refine Eq.trans (q_icmp_eq 44 dX11_isSign_23 rfl) (q_ite2 ?_ ?_)
      · rfl
      · refine Eq.trans (q_iload_n dX11_isSign_26 rfl) ?_
        refine Eq.trans (q_bipush (x := 61) dX11_isSign_27 rfl) ?_
        refine Eq.trans (q_icmp_eq 44 dX11_isSign_29 rfl) (q_ite2 ?_ ?_)
        · rfl
        · refine Eq.trans (q_iload_n dX11_isSign_32 rfl) ?_
          refine Eq.trans (q_bipush (x := 62) dX11_isSign_33 rfl) ?_
          refine Eq.trans (q_icmp_eq 44 dX11_isSign_35 rfl) (q_ite2 ?_ ?_)
          · rfl
          · refine Eq.trans (q_iload_n dX11_isSign_38 rfl) ?_
            refine Eq.trans (q_bipush (x := 35) dX11_isSign_39 rfl) ?_
            refine Eq.trans (q_icmp_ne 48 dX11_isSign_41 rfl) (q_ite2 ?_ ?_)
            · rfl
            · refine Eq.trans (q_iconst (x := 0) dX11_isSign_48 rfl) ?_
              rfl
  · rfl
theorem e_X11_isSign_44 (v0 : Int32) (h : mx_H)  : mx_D (3, mm_X11_isSign, 44, [.int v0], []) h = mx_D (3, mm_X11_isSign, 49, [.int v0], [.int 1]) h := by
  refine Eq.trans (q_iconst (x := 1) dX11_isSign_44 rfl) ?_
  refine Eq.trans (q_goto 49 dX11_isSign_45 rfl) ?_
  rfl
theorem e_X11_isSign_49 (v0 : Int32) (s0 : Int32) (h : mx_H)  : mx_D (3, mm_X11_isSign, 49, [.int v0], [.int s0]) h = if narrow .boolean (.int s0) = .int s0 then some (some (.int s0), h) else none := by
  exact q_ret dX11_isSign_49 rfl
theorem e_X11_next_0  (h : mx_H)  : mx_D (4, mm_X11_next, 0, [.ref 47, mx_junk], []) h = if (h.1 47 1) ≤ (h.1 47 4) then mx_D (4, mm_X11_next, 38, [.ref 47, mx_junk], []) h else (if mx_in (h.1 47 4) 120 = true then if (h.1 48 ((h.1 47 4).toNatClampNeg)) = 32 then mx_D (4, mm_X11_next, 0, [.ref 47, mx_junk], []) ((mx_u h.1 47 4 ((h.1 47 4) + 1)), h.2.1, h.2.2) else (mx_D (4, mm_X11_next, 38, [.ref 47, mx_junk], []) h) else none) := by
  refine Eq.trans (q_aload_n dX11_next_0 rfl rfl) ?_
  refine Eq.trans (q_getf dX11_next_1 mx_fld_11_99 (gf_47_4 _)) ?_
  refine Eq.trans (q_aload_n dX11_next_4 rfl rfl) ?_
  refine Eq.trans (q_getf dX11_next_5 mx_fld_11_88 (gf_47_1 _)) ?_
  refine Eq.trans (q_icmp_ge 38 dX11_next_8 rfl) (q_ite2 ?_ ?_)
  · rfl
  · refine Eq.trans (q_aload_n dX11_next_11 rfl rfl) ?_
    refine Eq.trans (q_getf dX11_next_12 mx_fld_11_7 (gf_47_0 _)) ?_
    refine Eq.trans (q_aload_n dX11_next_15 rfl rfl) ?_
    refine Eq.trans (q_getf dX11_next_16 mx_fld_11_99 (gf_47_4 _)) ?_
    refine Eq.trans (q_ld (w := 0) (by decide) dX11_next_19 (al_48 _ _)) (q_ite ?_)
    refine Eq.trans (q_bipush (x := 32) dX11_next_20 rfl) ?_
    refine Eq.trans (q_icmp_ne 38 dX11_next_22 rfl) (q_ite2 ?_ ?_)
    · refine Eq.trans (q_aload_n dX11_next_25 rfl rfl) ?_
      refine Eq.trans (q_aload_n dX11_next_26 rfl rfl) ?_
      refine Eq.trans (q_getf dX11_next_27 mx_fld_11_99 (gf_47_4 _)) ?_
      refine Eq.trans (q_iconst (x := 1) dX11_next_30 rfl) ?_
      refine Eq.trans (q_iadd dX11_next_31) ?_
      refine Eq.trans (q_putf dX11_next_32 mx_fld_11_99 (pf_47_4 _ _)) ?_
      refine Eq.trans (q_goto 0 dX11_next_35 rfl) ?_
      rfl
    · rfl
theorem c_X11_next  (h : mx_H) : mx_C mm_X11_next [.ref 47] h = mx_D (4, mm_X11_next, 0, [.ref 47, mx_junk], []) h := rfl
theorem e_X11_next_38  (h : mx_H)  : mx_D (4, mm_X11_next, 38, [.ref 47, mx_junk], []) h = mx_D (4, mm_X11_next, 56, [.ref 47, mx_junk], []) ((mx_u h.1 47 3 (h.1 47 4)), (mx_u (mx_u h.2.1 47 5 0) 47 6 0), h.2.2) := by
  refine Eq.trans (q_aload_n dX11_next_38 rfl rfl) ?_
  refine Eq.trans (q_aload_n dX11_next_39 rfl rfl) ?_
  refine Eq.trans (q_getf dX11_next_40 mx_fld_11_99 (gf_47_4 _)) ?_
  refine Eq.trans (q_putf dX11_next_43 mx_fld_11_102 (pf_47_3 _ _)) ?_
  refine Eq.trans (q_aload_n dX11_next_46 rfl rfl) ?_
  refine Eq.trans (q_lconst (x := 0) dX11_next_47 rfl) ?_
  refine Eq.trans (q_putf dX11_next_48 mx_fld_11_105 (pf_47_5 _ _)) ?_
  refine Eq.trans (q_aload_n dX11_next_51 rfl rfl) ?_
  refine Eq.trans (q_lconst (x := 0) dX11_next_52 rfl) ?_
  refine Eq.trans (q_putf dX11_next_53 mx_fld_11_109 (pf_47_6 _ _)) ?_
  rfl
theorem e_X11_next_56 (v1 : Value) (h : mx_H)  : mx_D (4, mm_X11_next, 56, [.ref 47, v1], []) h = if (h.1 47 1) ≤ (h.1 47 4) then mx_D (4, mm_X11_next, 187, [.ref 47, v1], []) h else (if mx_in (h.1 47 4) 120 = true then (mx_C mm_X11_isSign [.int (h.1 48 ((h.1 47 4).toNatClampNeg))] h).bind (fun o => mx_D (4, mm_X11_next, 79, [.ref 47, v1], o.1.toList ++ []) o.2) else none) := by
  refine Eq.trans (q_aload_n dX11_next_56 rfl rfl) ?_
  refine Eq.trans (q_getf dX11_next_57 mx_fld_11_99 (gf_47_4 _)) ?_
  refine Eq.trans (q_aload_n dX11_next_60 rfl rfl) ?_
  refine Eq.trans (q_getf dX11_next_61 mx_fld_11_88 (gf_47_1 _)) ?_
  refine Eq.trans (q_icmp_ge 187 dX11_next_64 rfl) (q_ite2 ?_ ?_)
  · rfl
  · refine Eq.trans (q_aload_n dX11_next_67 rfl rfl) ?_
    refine Eq.trans (q_getf dX11_next_68 mx_fld_11_7 (gf_47_0 _)) ?_
    refine Eq.trans (q_aload_n dX11_next_71 rfl rfl) ?_
    refine Eq.trans (q_getf dX11_next_72 mx_fld_11_99 (gf_47_4 _)) ?_
    refine Eq.trans (q_ld (w := 0) (by decide) dX11_next_75 (al_48 _ _)) (q_ite ?_)
    exact q_call1 (as := [.int (h.1 48 ((h.1 47 4).toNatClampNeg))]) (rest := []) dX11_next_76 mx_inv_11_112 rfl rfl ⟨Nat.le_of_ble_eq_true rfl, Nat.le_of_ble_eq_true rfl, (Nat.le_of_ble_eq_true rfl)⟩
theorem e_X11_next_79 (v1 : Value) (s0 : Int32) (h : mx_H)  : mx_D (4, mm_X11_next, 79, [.ref 47, v1], [.int s0]) h = if s0 = 0 then mx_D (4, mm_X11_next, 187, [.ref 47, v1], []) h else (if 8 ≤ ((h.1 47 4) - (h.1 47 3)) then mx_D (4, mm_X11_next, 126, [.ref 47, .int ((h.1 47 4) - (h.1 47 3))], [.long (h.2.1 47 5), .ref 47]) h else (if mx_in (h.1 47 4) 120 = true then mx_D (4, mm_X11_next, 126, [.ref 47, .int ((h.1 47 4) - (h.1 47 3))], [.long ((h.2.1 47 5) ||| (((h.1 48 ((h.1 47 4).toNatClampNeg)).toInt64) <<< ((8 * ((h.1 47 4) - (h.1 47 3))).toInt64 &&& 63))), .ref 47]) h else none)) := by
  refine Eq.trans (q_if_eq 187 dX11_next_79 rfl) (q_ite2 ?_ ?_)
  · rfl
  · refine Eq.trans (q_aload_n dX11_next_82 rfl rfl) ?_
    refine Eq.trans (q_getf dX11_next_83 mx_fld_11_99 (gf_47_4 _)) ?_
    refine Eq.trans (q_aload_n dX11_next_86 rfl rfl) ?_
    refine Eq.trans (q_getf dX11_next_87 mx_fld_11_102 (gf_47_3 _)) ?_
    refine Eq.trans (q_isub dX11_next_90) ?_
    refine Eq.trans (q_istore_n (L' := [.ref 47, .int ((h.1 47 4) - (h.1 47 3))]) dX11_next_91 (Nat.le_of_ble_eq_true rfl) rfl) ?_
    refine Eq.trans (q_aload_n dX11_next_92 rfl rfl) ?_
    refine Eq.trans (q_iload_n dX11_next_93 rfl) ?_
    refine Eq.trans (q_bipush (x := 8) dX11_next_94 rfl) ?_
    refine Eq.trans (q_icmp_ge 122 dX11_next_96 rfl) (q_ite2 ?_ ?_)
    · refine Eq.trans (q_aload_n dX11_next_122 rfl rfl) ?_
      refine Eq.trans (q_getf dX11_next_123 mx_fld_11_105 (gf_47_5 _)) ?_
      rfl
    · refine Eq.trans (q_aload_n dX11_next_99 rfl rfl) ?_
      refine Eq.trans (q_getf dX11_next_100 mx_fld_11_105 (gf_47_5 _)) ?_
      refine Eq.trans (q_aload_n dX11_next_103 rfl rfl) ?_
      refine Eq.trans (q_getf dX11_next_104 mx_fld_11_7 (gf_47_0 _)) ?_
      refine Eq.trans (q_aload_n dX11_next_107 rfl rfl) ?_
      refine Eq.trans (q_getf dX11_next_108 mx_fld_11_99 (gf_47_4 _)) ?_
      refine Eq.trans (q_ld (w := 0) (by decide) dX11_next_111 (al_48 _ _)) (q_ite ?_)
      refine Eq.trans (q_i2l dX11_next_112) ?_
      refine Eq.trans (q_bipush (x := 8) dX11_next_113 rfl) ?_
      refine Eq.trans (q_iload_n dX11_next_115 rfl) ?_
      refine Eq.trans (q_imul dX11_next_116) ?_
      refine Eq.trans (q_lshl dX11_next_117) ?_
      refine Eq.trans (q_lor dX11_next_118) ?_
      refine Eq.trans (q_goto 126 dX11_next_119 rfl) ?_
      rfl
theorem e_X11_next_126 (v1 : Int32) (s1 : Int64) (h : mx_H)  : mx_D (4, mm_X11_next, 126, [.ref 47, .int v1], [.long s1, .ref 47]) h = (mx_C mm_X11_in [.int v1, .int 8, .int 14] (h.1, (mx_u h.2.1 47 5 s1), h.2.2)).bind (fun o => mx_D (4, mm_X11_next, 138, [.ref 47, .int v1], o.1.toList ++ [.ref 47]) o.2) := by
  refine Eq.trans (q_putf dX11_next_126 mx_fld_11_105 (pf_47_5 _ _)) ?_
  refine Eq.trans (q_aload_n dX11_next_129 rfl rfl) ?_
  refine Eq.trans (q_iload_n dX11_next_130 rfl) ?_
  refine Eq.trans (q_bipush (x := 8) dX11_next_131 rfl) ?_
  refine Eq.trans (q_bipush (x := 14) dX11_next_133 rfl) ?_
  exact q_call1 (as := [.int v1, .int 8, .int 14]) (rest := [.ref 47]) dX11_next_135 mx_inv_11_84 rfl rfl ⟨Nat.le_of_ble_eq_true rfl, Nat.le_of_ble_eq_true rfl, (Nat.le_of_ble_eq_true rfl)⟩
theorem e_X11_next_138 (v1 : Int32) (s1 : Int32) (h : mx_H)  : mx_D (4, mm_X11_next, 138, [.ref 47, .int v1], [.int s1, .ref 47]) h = if s1 = 0 then mx_D (4, mm_X11_next, 171, [.ref 47, .int v1], [.long (h.2.1 47 6), .ref 47]) h else (if mx_in (h.1 47 4) 120 = true then mx_D (4, mm_X11_next, 171, [.ref 47, .int v1], [.long ((h.2.1 47 6) ||| (((h.1 48 ((h.1 47 4).toNatClampNeg)).toInt64) <<< ((8 * (v1 - 8)).toInt64 &&& 63))), .ref 47]) h else none) := by
  refine Eq.trans (q_if_eq 167 dX11_next_138 rfl) (q_ite2 ?_ ?_)
  · refine Eq.trans (q_aload_n dX11_next_167 rfl rfl) ?_
    refine Eq.trans (q_getf dX11_next_168 mx_fld_11_109 (gf_47_6 _)) ?_
    rfl
  · refine Eq.trans (q_aload_n dX11_next_141 rfl rfl) ?_
    refine Eq.trans (q_getf dX11_next_142 mx_fld_11_109 (gf_47_6 _)) ?_
    refine Eq.trans (q_aload_n dX11_next_145 rfl rfl) ?_
    refine Eq.trans (q_getf dX11_next_146 mx_fld_11_7 (gf_47_0 _)) ?_
    refine Eq.trans (q_aload_n dX11_next_149 rfl rfl) ?_
    refine Eq.trans (q_getf dX11_next_150 mx_fld_11_99 (gf_47_4 _)) ?_
    refine Eq.trans (q_ld (w := 0) (by decide) dX11_next_153 (al_48 _ _)) (q_ite ?_)
    refine Eq.trans (q_i2l dX11_next_154) ?_
    refine Eq.trans (q_bipush (x := 8) dX11_next_155 rfl) ?_
    refine Eq.trans (q_iload_n dX11_next_157 rfl) ?_
    refine Eq.trans (q_bipush (x := 8) dX11_next_158 rfl) ?_
    refine Eq.trans (q_isub dX11_next_160) ?_
    refine Eq.trans (q_imul dX11_next_161) ?_
    refine Eq.trans (q_lshl dX11_next_162) ?_
    refine Eq.trans (q_lor dX11_next_163) ?_
    refine Eq.trans (q_goto 171 dX11_next_164 rfl) ?_
    rfl
theorem e_X11_next_171 (v1 : Int32) (s1 : Int64) (h : mx_H)  : mx_D (4, mm_X11_next, 171, [.ref 47, .int v1], [.long s1, .ref 47]) h = mx_D (4, mm_X11_next, 56, [.ref 47, .int v1], []) ((mx_u h.1 47 4 ((h.1 47 4) + 1)), (mx_u h.2.1 47 6 s1), h.2.2) := by
  refine Eq.trans (q_putf dX11_next_171 mx_fld_11_109 (pf_47_6 _ _)) ?_
  refine Eq.trans (q_aload_n dX11_next_174 rfl rfl) ?_
  refine Eq.trans (q_aload_n dX11_next_175 rfl rfl) ?_
  refine Eq.trans (q_getf dX11_next_176 mx_fld_11_99 (gf_47_4 _)) ?_
  refine Eq.trans (q_iconst (x := 1) dX11_next_179 rfl) ?_
  refine Eq.trans (q_iadd dX11_next_180) ?_
  refine Eq.trans (q_putf dX11_next_181 mx_fld_11_99 (pf_47_4 _ _)) ?_
  refine Eq.trans (q_goto 56 dX11_next_184 rfl) ?_
  rfl
theorem e_X11_next_187 (v1 : Value) (h : mx_H)  : mx_D (4, mm_X11_next, 187, [.ref 47, v1], []) h = if ((h.1 47 4) - (h.1 47 3)) ≤ 13 then if ((h.1 47 4) - (h.1 47 3)) ≤ 0 then if (h.1 47 3) < (h.1 47 1) then if mx_in (h.1 47 3) 120 = true then if (h.1 48 ((h.1 47 3).toNatClampNeg)) = 40 then mx_D (4, mm_X11_next, 268, [.ref 47, .int ((h.1 47 4) - (h.1 47 3))], [.int 1, .ref 47]) h else (if mx_in (h.1 47 3) 120 = true then if (h.1 48 ((h.1 47 3).toNatClampNeg)) = 41 then mx_D (4, mm_X11_next, 268, [.ref 47, .int ((h.1 47 4) - (h.1 47 3))], [.int 2, .ref 47]) h else (mx_D (4, mm_X11_next, 268, [.ref 47, .int ((h.1 47 4) - (h.1 47 3))], [.int 4, .ref 47]) h) else none) else none else (mx_D (4, mm_X11_next, 268, [.ref 47, .int ((h.1 47 4) - (h.1 47 3))], [.int 0, .ref 47]) h) else (mx_D (4, mm_X11_next, 268, [.ref 47, .int ((h.1 47 4) - (h.1 47 3))], [.int 3, .ref 47]) h) else (mx_D (4, mm_X11_next, 268, [.ref 47, .int ((h.1 47 4) - (h.1 47 3))], [.int 4, .ref 47]) h) := by
  refine Eq.trans (q_aload_n dX11_next_187 rfl rfl) ?_
  refine Eq.trans (q_getf dX11_next_188 mx_fld_11_99 (gf_47_4 _)) ?_
  refine Eq.trans (q_aload_n dX11_next_191 rfl rfl) ?_
  refine Eq.trans (q_getf dX11_next_192 mx_fld_11_102 (gf_47_3 _)) ?_
  refine Eq.trans (q_isub dX11_next_195) ?_
  refine Eq.trans (q_istore_n (L' := [.ref 47, .int ((h.1 47 4) - (h.1 47 3))]) dX11_next_196 (Nat.le_of_ble_eq_true rfl) rfl) ?_
  refine Eq.trans (q_aload_n dX11_next_197 rfl rfl) ?_
  refine Eq.trans (q_iload_n dX11_next_198 rfl) ?_
  refine Eq.trans (q_bipush (x := 13) dX11_next_199 rfl) ?_
  refine Eq.trans (q_icmp_le 208 dX11_next_201 rfl) (q_ite2 ?_ ?_)
  · refine Eq.trans (q_iload_n dX11_next_208 rfl) ?_
    refine Eq.trans (q_if_le 216 dX11_next_209 rfl) (q_ite2 ?_ ?_)
    · refine Eq.trans (q_aload_n dX11_next_216 rfl rfl) ?_
      refine Eq.trans (q_getf dX11_next_217 mx_fld_11_102 (gf_47_3 _)) ?_
      refine Eq.trans (q_aload_n dX11_next_220 rfl rfl) ?_
      refine Eq.trans (q_getf dX11_next_221 mx_fld_11_88 (gf_47_1 _)) ?_
      refine Eq.trans (q_icmp_lt 231 dX11_next_224 rfl) (q_ite2 ?_ ?_)
      · refine Eq.trans (q_aload_n dX11_next_231 rfl rfl) ?_
        refine Eq.trans (q_getf dX11_next_232 mx_fld_11_7 (gf_47_0 _)) ?_
        refine Eq.trans (q_aload_n dX11_next_235 rfl rfl) ?_
        refine Eq.trans (q_getf dX11_next_236 mx_fld_11_102 (gf_47_3 _)) ?_
        refine Eq.trans (q_ld (w := 0) (by decide) dX11_next_239 (al_48 _ _)) (q_ite ?_)
        refine Eq.trans (q_bipush (x := 40) dX11_next_240 rfl) ?_
        refine Eq.trans (q_icmp_ne 249 dX11_next_242 rfl) (q_ite2 ?_ ?_)
        · refine Eq.trans (q_iconst (x := 1) dX11_next_245 rfl) ?_
          refine Eq.trans (q_goto 268 dX11_next_246 rfl) ?_
          rfl
        · refine Eq.trans (q_aload_n dX11_next_249 rfl rfl) ?_
          refine Eq.trans (q_getf dX11_next_250 mx_fld_11_7 (gf_47_0 _)) ?_
          refine Eq.trans (q_aload_n dX11_next_253 rfl rfl) ?_
          refine Eq.trans (q_getf dX11_next_254 mx_fld_11_102 (gf_47_3 _)) ?_
          refine Eq.trans (q_ld (w := 0) (by decide) dX11_next_257 (al_48 _ _)) (q_ite ?_)
          refine Eq.trans (q_bipush (x := 41) dX11_next_258 rfl) ?_
          refine Eq.trans (q_icmp_ne 267 dX11_next_260 rfl) (q_ite2 ?_ ?_)
          · refine Eq.trans (q_iconst (x := 2) dX11_next_263 rfl) ?_
            refine Eq.trans (q_goto 268 dX11_next_264 rfl) ?_
            rfl
          · refine Eq.trans (q_iconst (x := 4) dX11_next_267 rfl) ?_
            rfl
      · refine Eq.trans (q_iconst (x := 0) dX11_next_227 rfl) ?_
        refine Eq.trans (q_goto 268 dX11_next_228 rfl) ?_
        rfl
    · refine Eq.trans (q_iconst (x := 3) dX11_next_212 rfl) ?_
      refine Eq.trans (q_goto 268 dX11_next_213 rfl) ?_
      rfl
  · refine Eq.trans (q_iconst (x := 4) dX11_next_204 rfl) ?_
    refine Eq.trans (q_goto 268 dX11_next_205 rfl) ?_
    rfl
theorem e_X11_next_268 (v1 : Int32) (s1 : Int32) (h : mx_H)  : mx_D (4, mm_X11_next, 268, [.ref 47, .int v1], [.int s1, .ref 47]) h = if 0 < v1 then mx_D (4, mm_X11_next, 283, [.ref 47, .int v1], [.ref 47]) ((mx_u h.1 47 2 s1), h.2.1, h.2.2) else (if ((mx_u h.1 47 2 s1) 47 2) = 0 then mx_D (4, mm_X11_next, 283, [.ref 47, .int v1], [.ref 47]) ((mx_u h.1 47 2 s1), h.2.1, h.2.2) else (mx_D (4, mm_X11_next, 296, [.ref 47, .int v1], [.int (((mx_u h.1 47 2 s1) 47 4) + 1), .ref 47]) ((mx_u h.1 47 2 s1), h.2.1, h.2.2))) := by
  refine Eq.trans (q_putf dX11_next_268 mx_fld_11_115 (pf_47_2 _ _)) ?_
  refine Eq.trans (q_aload_n dX11_next_271 rfl rfl) ?_
  refine Eq.trans (q_iload_n dX11_next_272 rfl) ?_
  refine Eq.trans (q_if_gt 283 dX11_next_273 rfl) (q_ite2 ?_ ?_)
  · rfl
  · refine Eq.trans (q_aload_n dX11_next_276 rfl rfl) ?_
    refine Eq.trans (q_getf dX11_next_277 mx_fld_11_115 (gf_47_2 _)) ?_
    refine Eq.trans (q_if_ne 290 dX11_next_280 rfl) (q_ite2 ?_ ?_)
    · rfl
    · refine Eq.trans (q_aload_n dX11_next_290 rfl rfl) ?_
      refine Eq.trans (q_getf dX11_next_291 mx_fld_11_99 (gf_47_4 _)) ?_
      refine Eq.trans (q_iconst (x := 1) dX11_next_294 rfl) ?_
      refine Eq.trans (q_iadd dX11_next_295) ?_
      rfl
theorem e_X11_next_283 (v1 : Int32) (h : mx_H)  : mx_D (4, mm_X11_next, 283, [.ref 47, .int v1], [.ref 47]) h = mx_D (4, mm_X11_next, 296, [.ref 47, .int v1], [.int (h.1 47 4), .ref 47]) h := by
  refine Eq.trans (q_aload_n dX11_next_283 rfl rfl) ?_
  refine Eq.trans (q_getf dX11_next_284 mx_fld_11_99 (gf_47_4 _)) ?_
  refine Eq.trans (q_goto 296 dX11_next_287 rfl) ?_
  rfl
theorem e_X11_next_296 (v1 : Int32) (s1 : Int32) (h : mx_H)  : mx_D (4, mm_X11_next, 296, [.ref 47, .int v1], [.int s1, .ref 47]) h = some (none, ((mx_u h.1 47 4 s1), h.2.1, h.2.2)) := by
  refine Eq.trans (q_putf dX11_next_296 mx_fld_11_99 (pf_47_4 _ _)) ?_
  exact q_retV dX11_next_299 rfl
theorem e_X11_wrong_0 (v1 : Int32) (h : mx_H)  : mx_D (1, mm_X11_wrong, 0, [.ref 47, .int v1], []) h = some (some (.int 0), ((mx_u h.1 47 7 v1), h.2.1, h.2.2)) := by
  refine Eq.trans (q_aload_n dX11_wrong_0 rfl rfl) ?_
  refine Eq.trans (q_iload_n dX11_wrong_1 rfl) ?_
  refine Eq.trans (q_putf dX11_wrong_2 mx_fld_11_118 (pf_47_7 _ _)) ?_
  refine Eq.trans (q_iconst (x := 0) dX11_wrong_5 rfl) ?_
  exact Eq.trans (q_ret dX11_wrong_6 rfl) (if_pos rfl)
theorem c_X11_wrong (v1 : Int32) (h : mx_H) : mx_C mm_X11_wrong [.ref 47, .int v1] h = mx_D (1, mm_X11_wrong, 0, [.ref 47, .int v1], []) h := rfl
theorem e_X11_pass_0 (v1 : Int32) (h : mx_H)  : mx_D (5, mm_X11_pass, 0, [.ref 47, .int v1], []) h = if v1 = 0 then (mx_C mm_X11_wrong [.ref 47, .int (h.1 47 3)] h).bind (fun o => mx_D (5, mm_X11_pass, 12, [.ref 47, .int v1], o.1.toList ++ []) o.2) else ((mx_C mm_X11_next [.ref 47] h).bind (fun o => mx_D (5, mm_X11_pass, 17, [.ref 47, .int v1], o.1.toList ++ []) o.2)) := by
  refine Eq.trans (q_iload_n dX11_pass_0 rfl) ?_
  refine Eq.trans (q_if_ne 13 dX11_pass_1 rfl) (q_ite2 ?_ ?_)
  · refine Eq.trans (q_aload_n dX11_pass_4 rfl rfl) ?_
    refine Eq.trans (q_aload_n dX11_pass_5 rfl rfl) ?_
    refine Eq.trans (q_getf dX11_pass_6 mx_fld_11_102 (gf_47_3 _)) ?_
    exact q_call0 (as := [.int (h.1 47 3)]) (rest := []) dX11_pass_9 mx_inv_11_121 rfl rfl rfl ⟨Nat.le_of_ble_eq_true rfl, Nat.le_of_ble_eq_true rfl, (Nat.le_of_ble_eq_true rfl)⟩
  · refine Eq.trans (q_aload_n dX11_pass_13 rfl rfl) ?_
    exact q_call0 (as := []) (rest := []) dX11_pass_14 mx_inv_11_124 rfl rfl rfl ⟨Nat.le_of_ble_eq_true rfl, Nat.le_of_ble_eq_true rfl, (Nat.le_of_ble_eq_true rfl)⟩
theorem c_X11_pass (v1 : Int32) (h : mx_H) : mx_C mm_X11_pass [.ref 47, .int v1] h = mx_D (5, mm_X11_pass, 0, [.ref 47, .int v1], []) h := rfl
theorem e_X11_pass_12 (v1 : Int32) (s0 : Int32) (h : mx_H)  : mx_D (5, mm_X11_pass, 12, [.ref 47, .int v1], [.int s0]) h = if narrow .boolean (.int s0) = .int s0 then some (some (.int s0), h) else none := by
  exact q_ret dX11_pass_12 rfl
theorem e_X11_pass_17 (v1 : Int32) (h : mx_H)  : mx_D (5, mm_X11_pass, 17, [.ref 47, .int v1], []) h = some (some (.int 1), h) := by
  refine Eq.trans (q_iconst (x := 1) dX11_pass_17 rfl) ?_
  exact Eq.trans (q_ret dX11_pass_18 rfl) (if_pos rfl)
theorem e_X11_word_0 (v1 : Int64) (v3 : Int64) (h : mx_H)  : mx_D (6, mm_X11_word, 0, [.ref 47, .long v1, mx_junk, .long v3, mx_junk], []) h = if (h.1 47 2) = 3 then if (lg_cmp (h.2.1 47 5) v1) = 0 then if (lg_cmp (h.2.1 47 6) v3) = 0 then mx_D (6, mm_X11_word, 32, [.ref 47, .long v1, mx_junk, .long v3, mx_junk], [.int 1, .ref 47]) h else (mx_D (6, mm_X11_word, 31, [.ref 47, .long v1, mx_junk, .long v3, mx_junk], [.ref 47]) h) else (mx_D (6, mm_X11_word, 31, [.ref 47, .long v1, mx_junk, .long v3, mx_junk], [.ref 47]) h) else (mx_D (6, mm_X11_word, 31, [.ref 47, .long v1, mx_junk, .long v3, mx_junk], [.ref 47]) h) := by
  refine Eq.trans (q_aload_n dX11_word_0 rfl rfl) ?_
  refine Eq.trans (q_aload_n dX11_word_1 rfl rfl) ?_
  refine Eq.trans (q_getf dX11_word_2 mx_fld_11_115 (gf_47_2 _)) ?_
  refine Eq.trans (q_iconst (x := 3) dX11_word_5 rfl) ?_
  refine Eq.trans (q_icmp_ne 31 dX11_word_6 rfl) (q_ite2 ?_ ?_)
  · refine Eq.trans (q_aload_n dX11_word_9 rfl rfl) ?_
    refine Eq.trans (q_getf dX11_word_10 mx_fld_11_105 (gf_47_5 _)) ?_
    refine Eq.trans (q_lload_n dX11_word_13 rfl) ?_
    refine Eq.trans (q_lcmp dX11_word_14) ?_
    refine Eq.trans (q_if_ne 31 dX11_word_15 rfl) (q_ite2 ?_ ?_)
    · refine Eq.trans (q_aload_n dX11_word_18 rfl rfl) ?_
      refine Eq.trans (q_getf dX11_word_19 mx_fld_11_109 (gf_47_6 _)) ?_
      refine Eq.trans (q_lload_n dX11_word_22 rfl) ?_
      refine Eq.trans (q_lcmp dX11_word_23) ?_
      refine Eq.trans (q_if_ne 31 dX11_word_24 rfl) (q_ite2 ?_ ?_)
      · refine Eq.trans (q_iconst (x := 1) dX11_word_27 rfl) ?_
        refine Eq.trans (q_goto 32 dX11_word_28 rfl) ?_
        rfl
      · rfl
    · rfl
  · rfl
theorem c_X11_word (v1 : Int64) (v3 : Int64) (h : mx_H) : mx_C mm_X11_word [.ref 47, .long v1, .long v3] h = mx_D (6, mm_X11_word, 0, [.ref 47, .long v1, mx_junk, .long v3, mx_junk], []) h := rfl
theorem e_X11_word_31 (v1 : Int64) (v3 : Int64) (h : mx_H)  : mx_D (6, mm_X11_word, 31, [.ref 47, .long v1, mx_junk, .long v3, mx_junk], [.ref 47]) h = mx_D (6, mm_X11_word, 32, [.ref 47, .long v1, mx_junk, .long v3, mx_junk], [.int 0, .ref 47]) h := by
  refine Eq.trans (q_iconst (x := 0) dX11_word_31 rfl) ?_
  rfl
theorem e_X11_word_32 (v1 : Int64) (v3 : Int64) (s1 : Int32) (h : mx_H)  : mx_D (6, mm_X11_word, 32, [.ref 47, .long v1, mx_junk, .long v3, mx_junk], [.int s1, .ref 47]) h = (mx_C mm_X11_pass [.ref 47, .int s1] h).bind (fun o => mx_D (6, mm_X11_word, 35, [.ref 47, .long v1, mx_junk, .long v3, mx_junk], o.1.toList ++ []) o.2) := by
  exact q_call0 (as := [.int s1]) (rest := []) dX11_word_32 mx_inv_11_127 rfl rfl rfl ⟨Nat.le_of_ble_eq_true rfl, Nat.le_of_ble_eq_true rfl, (Nat.le_of_ble_eq_true rfl)⟩
theorem e_X11_word_35 (v1 : Int64) (v3 : Int64) (s0 : Int32) (h : mx_H)  : mx_D (6, mm_X11_word, 35, [.ref 47, .long v1, mx_junk, .long v3, mx_junk], [.int s0]) h = if narrow .boolean (.int s0) = .int s0 then some (some (.int s0), h) else none := by
  exact q_ret dX11_word_35 rfl
theorem e_X11_number_0  (h : mx_H)  : mx_D (3, mm_X11_number, 0, [.ref 47, mx_junk, mx_junk, mx_junk, mx_junk], []) h = if (h.1 47 2) = 3 then if 2 < ((h.1 47 4) - (h.1 47 3)) then mx_D (3, mm_X11_number, 46, [.ref 47, .int ((h.1 47 4) - (h.1 47 3)), mx_junk, mx_junk, mx_junk], []) h else (if ((h.1 47 4) - (h.1 47 3)) = 2 then if mx_in (h.1 47 3) 120 = true then if (h.1 48 ((h.1 47 3).toNatClampNeg)) = 48 then mx_D (3, mm_X11_number, 46, [.ref 47, .int ((h.1 47 4) - (h.1 47 3)), mx_junk, mx_junk, mx_junk], []) h else (mx_D (3, mm_X11_number, 42, [.ref 47, .int ((h.1 47 4) - (h.1 47 3)), mx_junk, mx_junk, mx_junk], []) h) else none else (mx_D (3, mm_X11_number, 42, [.ref 47, .int ((h.1 47 4) - (h.1 47 3)), mx_junk, mx_junk, mx_junk], []) h)) else (mx_D (3, mm_X11_number, 46, [.ref 47, .int ((h.1 47 4) - (h.1 47 3)), mx_junk, mx_junk, mx_junk], []) h) := by
  refine Eq.trans (q_aload_n dX11_number_0 rfl rfl) ?_
  refine Eq.trans (q_getf dX11_number_1 mx_fld_11_99 (gf_47_4 _)) ?_
  refine Eq.trans (q_aload_n dX11_number_4 rfl rfl) ?_
  refine Eq.trans (q_getf dX11_number_5 mx_fld_11_102 (gf_47_3 _)) ?_
  refine Eq.trans (q_isub dX11_number_8) ?_
  refine Eq.trans (q_istore_n (L' := [.ref 47, .int ((h.1 47 4) - (h.1 47 3)), mx_junk, mx_junk, mx_junk]) dX11_number_9 (Nat.le_of_ble_eq_true rfl) rfl) ?_
  refine Eq.trans (q_aload_n dX11_number_10 rfl rfl) ?_
  refine Eq.trans (q_getf dX11_number_11 mx_fld_11_115 (gf_47_2 _)) ?_
  refine Eq.trans (q_iconst (x := 3) dX11_number_14 rfl) ?_
  refine Eq.trans (q_icmp_ne 46 dX11_number_15 rfl) (q_ite2 ?_ ?_)
  · refine Eq.trans (q_iload_n dX11_number_18 rfl) ?_
    refine Eq.trans (q_iconst (x := 2) dX11_number_19 rfl) ?_
    refine Eq.trans (q_icmp_gt 46 dX11_number_20 rfl) (q_ite2 ?_ ?_)
    · rfl
    · refine Eq.trans (q_iload_n dX11_number_23 rfl) ?_
      refine Eq.trans (q_iconst (x := 2) dX11_number_24 rfl) ?_
      refine Eq.trans (q_icmp_ne 42 dX11_number_25 rfl) (q_ite2 ?_ ?_)
      · refine Eq.trans (q_aload_n dX11_number_28 rfl rfl) ?_
        refine Eq.trans (q_getf dX11_number_29 mx_fld_11_7 (gf_47_0 _)) ?_
        refine Eq.trans (q_aload_n dX11_number_32 rfl rfl) ?_
        refine Eq.trans (q_getf dX11_number_33 mx_fld_11_102 (gf_47_3 _)) ?_
        refine Eq.trans (q_ld (w := 0) (by decide) dX11_number_36 (al_48 _ _)) (q_ite ?_)
        refine Eq.trans (q_bipush (x := 48) dX11_number_37 rfl) ?_
        refine Eq.trans (q_icmp_eq 46 dX11_number_39 rfl) (q_ite2 ?_ ?_)
        · rfl
        · rfl
      · rfl
  · rfl
theorem c_X11_number  (h : mx_H) : mx_C mm_X11_number [.ref 47] h = mx_D (3, mm_X11_number, 0, [.ref 47, mx_junk, mx_junk, mx_junk, mx_junk], []) h := rfl
theorem e_X11_number_42 (v1 : Int32) (h : mx_H)  : mx_D (3, mm_X11_number, 42, [.ref 47, .int v1, mx_junk, mx_junk, mx_junk], []) h = mx_D (3, mm_X11_number, 47, [.ref 47, .int v1, mx_junk, mx_junk, mx_junk], [.int 1]) h := by
  refine Eq.trans (q_iconst (x := 1) dX11_number_42 rfl) ?_
  refine Eq.trans (q_goto 47 dX11_number_43 rfl) ?_
  rfl
theorem e_X11_number_46 (v1 : Int32) (h : mx_H)  : mx_D (3, mm_X11_number, 46, [.ref 47, .int v1, mx_junk, mx_junk, mx_junk], []) h = mx_D (3, mm_X11_number, 47, [.ref 47, .int v1, mx_junk, mx_junk, mx_junk], [.int 0]) h := by
  refine Eq.trans (q_iconst (x := 0) dX11_number_46 rfl) ?_
  rfl
theorem e_X11_number_47 (v1 : Int32) (s0 : Int32) (h : mx_H)  : mx_D (3, mm_X11_number, 47, [.ref 47, .int v1, mx_junk, mx_junk, mx_junk], [.int s0]) h = mx_D (3, mm_X11_number, 56, [.ref 47, .int v1, .int s0, .int 0, .int (h.1 47 3)], []) h := by
  refine Eq.trans (q_istore_n (L' := [.ref 47, .int v1, .int s0, mx_junk, mx_junk]) dX11_number_47 (Nat.le_of_ble_eq_true rfl) rfl) ?_
  refine Eq.trans (q_iconst (x := 0) dX11_number_48 rfl) ?_
  refine Eq.trans (q_istore_n (L' := [.ref 47, .int v1, .int s0, .int 0, mx_junk]) dX11_number_49 (Nat.le_of_ble_eq_true rfl) rfl) ?_
  refine Eq.trans (q_aload_n dX11_number_50 rfl rfl) ?_
  refine Eq.trans (q_getf dX11_number_51 mx_fld_11_102 (gf_47_3 _)) ?_
  refine Eq.trans (q_istore (L' := [.ref 47, .int v1, .int s0, .int 0, .int (h.1 47 3)]) dX11_number_54 (Nat.le_of_ble_eq_true rfl) rfl) ?_
  rfl
theorem e_X11_number_56 (v1 : Int32) (v2 : Int32) (v3 : Int32) (v4 : Int32) (h : mx_H)  : mx_D (3, mm_X11_number, 56, [.ref 47, .int v1, .int v2, .int v3, .int v4], []) h = if (h.1 47 4) ≤ v4 then mx_D (3, mm_X11_number, 102, [.ref 47, .int v1, .int v2, .int v3, .int v4], []) h else (if v2 = 0 then mx_D (3, mm_X11_number, 102, [.ref 47, .int v1, .int v2, .int v3, .int v4], []) h else (if mx_in v4 120 = true then (mx_C mm_X11_isDigit [.int (h.1 48 v4.toNatClampNeg)] h).bind (fun o => mx_D (3, mm_X11_number, 79, [.ref 47, .int v1, .int v2, .int v3, .int v4], o.1.toList ++ []) o.2) else none)) := by
  refine Eq.trans (q_iload dX11_number_56 rfl) ?_
  refine Eq.trans (q_aload_n dX11_number_58 rfl rfl) ?_
  refine Eq.trans (q_getf dX11_number_59 mx_fld_11_99 (gf_47_4 _)) ?_
  refine Eq.trans (q_icmp_ge 102 dX11_number_62 rfl) (q_ite2 ?_ ?_)
  · rfl
  · refine Eq.trans (q_iload_n dX11_number_65 rfl) ?_
    refine Eq.trans (q_if_eq 102 dX11_number_66 rfl) (q_ite2 ?_ ?_)
    · rfl
    · refine Eq.trans (q_aload_n dX11_number_69 rfl rfl) ?_
      refine Eq.trans (q_getf dX11_number_70 mx_fld_11_7 (gf_47_0 _)) ?_
      refine Eq.trans (q_iload dX11_number_73 rfl) ?_
      refine Eq.trans (q_ld (w := 0) (by decide) dX11_number_75 (al_48 _ _)) (q_ite ?_)
      exact q_call1 (as := [.int (h.1 48 v4.toNatClampNeg)]) (rest := []) dX11_number_76 mx_inv_11_96 rfl rfl ⟨Nat.le_of_ble_eq_true rfl, Nat.le_of_ble_eq_true rfl, (Nat.le_of_ble_eq_true rfl)⟩
theorem e_X11_number_79 (v1 : Int32) (v2 : Int32) (v3 : Int32) (v4 : Int32) (s0 : Int32) (h : mx_H)  : mx_D (3, mm_X11_number, 79, [.ref 47, .int v1, .int v2, .int v3, .int v4], [.int s0]) h = if mx_in v4 120 = true then mx_D (3, mm_X11_number, 56, [.ref 47, .int v1, .int s0, .int (((10 * v3) + (h.1 48 v4.toNatClampNeg)) - 48), .int (v4 + 1)], []) h else none := by
  refine Eq.trans (q_istore_n (L' := [.ref 47, .int v1, .int s0, .int v3, .int v4]) dX11_number_79 (Nat.le_of_ble_eq_true rfl) rfl) ?_
  refine Eq.trans (q_bipush (x := 10) dX11_number_80 rfl) ?_
  refine Eq.trans (q_iload_n dX11_number_82 rfl) ?_
  refine Eq.trans (q_imul dX11_number_83) ?_
  refine Eq.trans (q_aload_n dX11_number_84 rfl rfl) ?_
  refine Eq.trans (q_getf dX11_number_85 mx_fld_11_7 (gf_47_0 _)) ?_
  refine Eq.trans (q_iload dX11_number_88 rfl) ?_
  refine Eq.trans (q_ld (w := 0) (by decide) dX11_number_90 (al_48 _ _)) (q_ite ?_)
  refine Eq.trans (q_iadd dX11_number_91) ?_
  refine Eq.trans (q_bipush (x := 48) dX11_number_92 rfl) ?_
  refine Eq.trans (q_isub dX11_number_94) ?_
  refine Eq.trans (q_istore_n (L' := [.ref 47, .int v1, .int s0, .int (((10 * v3) + (h.1 48 v4.toNatClampNeg)) - 48), .int v4]) dX11_number_95 (Nat.le_of_ble_eq_true rfl) rfl) ?_
  refine Eq.trans (q_iinc (x' := 1) (L' := [.ref 47, .int v1, .int s0, .int (((10 * v3) + (h.1 48 v4.toNatClampNeg)) - 48), .int (v4 + 1)]) dX11_number_96 rfl rfl rfl) ?_
  refine Eq.trans (q_goto 56 dX11_number_99 rfl) ?_
  rfl
theorem e_X11_number_102 (v1 : Int32) (v2 : Int32) (v3 : Int32) (v4 : Int32) (h : mx_H)  : mx_D (3, mm_X11_number, 102, [.ref 47, .int v1, .int v2, .int v3, .int v4], []) h = if v2 = 0 then mx_D (3, mm_X11_number, 111, [.ref 47, .int v1, .int v2, .int v3, .int v4], [.int ((-1))]) h else (mx_D (3, mm_X11_number, 111, [.ref 47, .int v1, .int v2, .int v3, .int v4], [.int v3]) h) := by
  refine Eq.trans (q_iload_n dX11_number_102 rfl) ?_
  refine Eq.trans (q_if_eq 110 dX11_number_103 rfl) (q_ite2 ?_ ?_)
  · refine Eq.trans (q_iconst (x := (-1)) dX11_number_110 rfl) ?_
    rfl
  · refine Eq.trans (q_iload_n dX11_number_106 rfl) ?_
    refine Eq.trans (q_goto 111 dX11_number_107 rfl) ?_
    rfl
theorem e_X11_number_111 (v1 : Int32) (v2 : Int32) (v3 : Int32) (v4 : Int32) (s0 : Int32) (h : mx_H)  : mx_D (3, mm_X11_number, 111, [.ref 47, .int v1, .int v2, .int v3, .int v4], [.int s0]) h = some (some (.int s0), h) := by
  exact q_retI dX11_number_111 rfl
theorem e_X11_kindOf_0 (v0 : Int64) (v2 : Int64) (h : mx_H)  : mx_D (1, mm_X11_kindOf, 0, [.long v0, mx_junk, .long v2, mx_junk, mx_junk], []) h = if (lg_cmp v0 7630702) = 0 then if (lg_cmp v2 0) = 0 then mx_D (1, mm_X11_kindOf, 23, [.long v0, mx_junk, .long v2, mx_junk, .int ((-1))], [.int 4]) h else (mx_D (1, mm_X11_kindOf, 21, [.long v0, mx_junk, .long v2, mx_junk, .int ((-1))], []) h) else (mx_D (1, mm_X11_kindOf, 21, [.long v0, mx_junk, .long v2, mx_junk, .int ((-1))], []) h) := by
  refine Eq.trans (q_iconst (x := (-1)) dX11_kindOf_0 rfl) ?_
  refine Eq.trans (q_istore (L' := [.long v0, mx_junk, .long v2, mx_junk, .int ((-1))]) dX11_kindOf_1 (Nat.le_of_ble_eq_true rfl) rfl) ?_
  refine Eq.trans (q_lload_n dX11_kindOf_3 rfl) ?_
  refine Eq.trans (q_ldc2 dX11_kindOf_4 mx_ldc2_11_131) ?_
  refine Eq.trans (q_lcmp dX11_kindOf_7) ?_
  refine Eq.trans (q_if_ne 21 dX11_kindOf_8 rfl) (q_ite2 ?_ ?_)
  · refine Eq.trans (q_lload_n dX11_kindOf_11 rfl) ?_
    refine Eq.trans (q_lconst (x := 0) dX11_kindOf_12 rfl) ?_
    refine Eq.trans (q_lcmp dX11_kindOf_13) ?_
    refine Eq.trans (q_if_ne 21 dX11_kindOf_14 rfl) (q_ite2 ?_ ?_)
    · refine Eq.trans (q_iconst (x := 4) dX11_kindOf_17 rfl) ?_
      refine Eq.trans (q_goto 23 dX11_kindOf_18 rfl) ?_
      rfl
    · rfl
  · rfl
theorem c_X11_kindOf (v0 : Int64) (v2 : Int64) (h : mx_H) : mx_C mm_X11_kindOf [.long v0, .long v2] h = mx_D (1, mm_X11_kindOf, 0, [.long v0, mx_junk, .long v2, mx_junk, mx_junk], []) h := rfl
theorem e_X11_kindOf_21 (v0 : Int64) (v2 : Int64) (v4 : Int32) (h : mx_H)  : mx_D (1, mm_X11_kindOf, 21, [.long v0, mx_junk, .long v2, mx_junk, .int v4], []) h = mx_D (1, mm_X11_kindOf, 23, [.long v0, mx_junk, .long v2, mx_junk, .int v4], [.int v4]) h := by
  refine Eq.trans (q_iload dX11_kindOf_21 rfl) ?_
  rfl
theorem e_X11_kindOf_23 (v0 : Int64) (v2 : Int64) (v4 : Int32) (s0 : Int32) (h : mx_H)  : mx_D (1, mm_X11_kindOf, 23, [.long v0, mx_junk, .long v2, mx_junk, .int v4], [.int s0]) h = if (lg_cmp v0 6581857) = 0 then if (lg_cmp v2 0) = 0 then mx_D (1, mm_X11_kindOf, 45, [.long v0, mx_junk, .long v2, mx_junk, .int s0], [.int 5]) h else (mx_D (1, mm_X11_kindOf, 43, [.long v0, mx_junk, .long v2, mx_junk, .int s0], []) h) else (mx_D (1, mm_X11_kindOf, 43, [.long v0, mx_junk, .long v2, mx_junk, .int s0], []) h) := by
  refine Eq.trans (q_istore (L' := [.long v0, mx_junk, .long v2, mx_junk, .int s0]) dX11_kindOf_23 (Nat.le_of_ble_eq_true rfl) rfl) ?_
  refine Eq.trans (q_lload_n dX11_kindOf_25 rfl) ?_
  refine Eq.trans (q_ldc2 dX11_kindOf_26 mx_ldc2_11_133) ?_
  refine Eq.trans (q_lcmp dX11_kindOf_29) ?_
  refine Eq.trans (q_if_ne 43 dX11_kindOf_30 rfl) (q_ite2 ?_ ?_)
  · refine Eq.trans (q_lload_n dX11_kindOf_33 rfl) ?_
    refine Eq.trans (q_lconst (x := 0) dX11_kindOf_34 rfl) ?_
    refine Eq.trans (q_lcmp dX11_kindOf_35) ?_
    refine Eq.trans (q_if_ne 43 dX11_kindOf_36 rfl) (q_ite2 ?_ ?_)
    · refine Eq.trans (q_iconst (x := 5) dX11_kindOf_39 rfl) ?_
      refine Eq.trans (q_goto 45 dX11_kindOf_40 rfl) ?_
      rfl
    · rfl
  · rfl
theorem e_X11_kindOf_43 (v0 : Int64) (v2 : Int64) (v4 : Int32) (h : mx_H)  : mx_D (1, mm_X11_kindOf, 43, [.long v0, mx_junk, .long v2, mx_junk, .int v4], []) h = mx_D (1, mm_X11_kindOf, 45, [.long v0, mx_junk, .long v2, mx_junk, .int v4], [.int v4]) h := by
  refine Eq.trans (q_iload dX11_kindOf_43 rfl) ?_
  rfl
theorem e_X11_kindOf_45 (v0 : Int64) (v2 : Int64) (v4 : Int32) (s0 : Int32) (h : mx_H)  : mx_D (1, mm_X11_kindOf, 45, [.long v0, mx_junk, .long v2, mx_junk, .int v4], [.int s0]) h = if (lg_cmp v0 29295) = 0 then if (lg_cmp v2 0) = 0 then mx_D (1, mm_X11_kindOf, 68, [.long v0, mx_junk, .long v2, mx_junk, .int s0], [.int 6]) h else (mx_D (1, mm_X11_kindOf, 66, [.long v0, mx_junk, .long v2, mx_junk, .int s0], []) h) else (mx_D (1, mm_X11_kindOf, 66, [.long v0, mx_junk, .long v2, mx_junk, .int s0], []) h) := by
  refine Eq.trans (q_istore (L' := [.long v0, mx_junk, .long v2, mx_junk, .int s0]) dX11_kindOf_45 (Nat.le_of_ble_eq_true rfl) rfl) ?_
  refine Eq.trans (q_lload_n dX11_kindOf_47 rfl) ?_
  refine Eq.trans (q_ldc2 dX11_kindOf_48 mx_ldc2_11_135) ?_
  refine Eq.trans (q_lcmp dX11_kindOf_51) ?_
  refine Eq.trans (q_if_ne 66 dX11_kindOf_52 rfl) (q_ite2 ?_ ?_)
  · refine Eq.trans (q_lload_n dX11_kindOf_55 rfl) ?_
    refine Eq.trans (q_lconst (x := 0) dX11_kindOf_56 rfl) ?_
    refine Eq.trans (q_lcmp dX11_kindOf_57) ?_
    refine Eq.trans (q_if_ne 66 dX11_kindOf_58 rfl) (q_ite2 ?_ ?_)
    · refine Eq.trans (q_bipush (x := 6) dX11_kindOf_61 rfl) ?_
      refine Eq.trans (q_goto 68 dX11_kindOf_63 rfl) ?_
      rfl
    · rfl
  · rfl
theorem e_X11_kindOf_66 (v0 : Int64) (v2 : Int64) (v4 : Int32) (h : mx_H)  : mx_D (1, mm_X11_kindOf, 66, [.long v0, mx_junk, .long v2, mx_junk, .int v4], []) h = mx_D (1, mm_X11_kindOf, 68, [.long v0, mx_junk, .long v2, mx_junk, .int v4], [.int v4]) h := by
  refine Eq.trans (q_iload dX11_kindOf_66 rfl) ?_
  rfl
theorem e_X11_kindOf_68 (v0 : Int64) (v2 : Int64) (v4 : Int32) (s0 : Int32) (h : mx_H)  : mx_D (1, mm_X11_kindOf, 68, [.long v0, mx_junk, .long v2, mx_junk, .int v4], [.int s0]) h = if (lg_cmp v0 7499640) = 0 then if (lg_cmp v2 0) = 0 then mx_D (1, mm_X11_kindOf, 91, [.long v0, mx_junk, .long v2, mx_junk, .int s0], [.int 7]) h else (mx_D (1, mm_X11_kindOf, 89, [.long v0, mx_junk, .long v2, mx_junk, .int s0], []) h) else (mx_D (1, mm_X11_kindOf, 89, [.long v0, mx_junk, .long v2, mx_junk, .int s0], []) h) := by
  refine Eq.trans (q_istore (L' := [.long v0, mx_junk, .long v2, mx_junk, .int s0]) dX11_kindOf_68 (Nat.le_of_ble_eq_true rfl) rfl) ?_
  refine Eq.trans (q_lload_n dX11_kindOf_70 rfl) ?_
  refine Eq.trans (q_ldc2 dX11_kindOf_71 mx_ldc2_11_137) ?_
  refine Eq.trans (q_lcmp dX11_kindOf_74) ?_
  refine Eq.trans (q_if_ne 89 dX11_kindOf_75 rfl) (q_ite2 ?_ ?_)
  · refine Eq.trans (q_lload_n dX11_kindOf_78 rfl) ?_
    refine Eq.trans (q_lconst (x := 0) dX11_kindOf_79 rfl) ?_
    refine Eq.trans (q_lcmp dX11_kindOf_80) ?_
    refine Eq.trans (q_if_ne 89 dX11_kindOf_81 rfl) (q_ite2 ?_ ?_)
    · refine Eq.trans (q_bipush (x := 7) dX11_kindOf_84 rfl) ?_
      refine Eq.trans (q_goto 91 dX11_kindOf_86 rfl) ?_
      rfl
    · rfl
  · rfl
theorem e_X11_kindOf_89 (v0 : Int64) (v2 : Int64) (v4 : Int32) (h : mx_H)  : mx_D (1, mm_X11_kindOf, 89, [.long v0, mx_junk, .long v2, mx_junk, .int v4], []) h = mx_D (1, mm_X11_kindOf, 91, [.long v0, mx_junk, .long v2, mx_junk, .int v4], [.int v4]) h := by
  refine Eq.trans (q_iload dX11_kindOf_89 rfl) ?_
  rfl
