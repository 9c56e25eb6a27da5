theorem e_X3_and_0 (v1 : Int32) (v2 : Int32) (h : mx_H)  : mx_D (2, mm_X3_and, 0, [.ref 22, .int v1, .int v2], []) h = if v1 = 1 then mx_D (2, mm_X3_and, 17, [.ref 22, .int v1, .int v2], []) h else (if v2 = 1 then mx_D (2, mm_X3_and, 17, [.ref 22, .int v1, .int v2], []) h else (if v1 = (v2 ^^^ 1) then mx_D (2, mm_X3_and, 17, [.ref 22, .int v1, .int v2], []) h else (if v1 = 0 then mx_D (2, mm_X3_and, 28, [.ref 22, .int v1, .int v2], []) h else (if v1 = v2 then mx_D (2, mm_X3_and, 28, [.ref 22, .int v1, .int v2], []) h else (if v2 = 0 then mx_D (2, mm_X3_and, 46, [.ref 22, .int v1, .int v2], [.int v1]) h else ((mx_C mm_X3_put [.ref 22, .int 0, .int 0, .int v1, .int v2] h).bind (fun o => mx_D (2, mm_X3_and, 46, [.ref 22, .int v1, .int v2], o.1.toList ++ []) o.2))))))) := by
  refine Eq.trans (q_iload_n dX3_and_0 rfl) ?_
  refine Eq.trans (q_iconst (x := 1) dX3_and_1 rfl) ?_
  refine Eq.trans (q_icmp_eq 17 dX3_and_2 rfl) (q_ite2 ?_ ?_)
  · rfl
  · refine Eq.trans (q_iload_n dX3_and_5 rfl) ?_
    refine Eq.trans (q_iconst (x := 1) dX3_and_6 rfl) ?_
    refine Eq.trans (q_icmp_eq 17 dX3_and_7 rfl) (q_ite2 ?_ ?_)
    · rfl
    · refine Eq.trans (q_iload_n dX3_and_10 rfl) ?_
      refine Eq.trans (q_iload_n dX3_and_11 rfl) ?_
      refine Eq.trans (q_iconst (x := 1) dX3_and_12 rfl) ?_
      refine Eq.trans (q_ixor dX3_and_13) ?_
      refine Eq.trans (q_icmp_ne 19 dX3_and_14 rfl) (q_ite2 ?_ ?_)
      · rfl
      · refine Eq.trans (q_iload_n dX3_and_19 rfl) ?_
        refine Eq.trans (q_if_eq 28 dX3_and_20 rfl) (q_ite2 ?_ ?_)
        · rfl
        · refine Eq.trans (q_iload_n dX3_and_23 rfl) ?_
          refine Eq.trans (q_iload_n dX3_and_24 rfl) ?_
          refine Eq.trans (q_icmp_ne 30 dX3_and_25 rfl) (q_ite2 ?_ ?_)
          · rfl
          · refine Eq.trans (q_iload_n dX3_and_30 rfl) ?_
            refine Eq.trans (q_if_ne 38 dX3_and_31 rfl) (q_ite2 ?_ ?_)
            · refine Eq.trans (q_iload_n dX3_and_34 rfl) ?_
              refine Eq.trans (q_goto 46 dX3_and_35 rfl) ?_
              rfl
            · refine Eq.trans (q_aload_n dX3_and_38 rfl rfl) ?_
              refine Eq.trans (q_iconst (x := 0) dX3_and_39 rfl) ?_
              refine Eq.trans (q_iconst (x := 0) dX3_and_40 rfl) ?_
              refine Eq.trans (q_iload_n dX3_and_41 rfl) ?_
              refine Eq.trans (q_iload_n dX3_and_42 rfl) ?_
              exact q_call0 (as := [.int 0, .int 0, .int v1, .int v2]) (rest := []) dX3_and_43 mx_inv_3_31 rfl rfl rfl ⟨Nat.le_of_ble_eq_true rfl, Nat.le_of_ble_eq_true rfl, (Nat.le_of_ble_eq_true rfl)⟩
theorem c_X3_and (v1 : Int32) (v2 : Int32) (h : mx_H) : mx_C mm_X3_and [.ref 22, .int v1, .int v2] h = mx_D (2, mm_X3_and, 0, [.ref 22, .int v1, .int v2], []) h := rfl
theorem e_X3_and_17 (v1 : Int32) (v2 : Int32) (h : mx_H)  : mx_D (2, mm_X3_and, 17, [.ref 22, .int v1, .int v2], []) h = some (some (.int 1), h) := by
  refine Eq.trans (q_iconst (x := 1) dX3_and_17 rfl) ?_
  exact q_retI dX3_and_18 rfl
theorem e_X3_and_28 (v1 : Int32) (v2 : Int32) (h : mx_H)  : mx_D (2, mm_X3_and, 28, [.ref 22, .int v1, .int v2], []) h = some (some (.int v2), h) := by
  refine Eq.trans (q_iload_n dX3_and_28 rfl) ?_
  exact q_retI dX3_and_29 rfl
theorem e_X3_and_46 (v1 : Int32) (v2 : Int32) (s0 : Int32) (h : mx_H)  : mx_D (2, mm_X3_and, 46, [.ref 22, .int v1, .int v2], [.int s0]) h = some (some (.int s0), h) := by
  exact q_retI dX3_and_46 rfl
theorem e_X3_or_0 (v1 : Int32) (v2 : Int32) (h : mx_H)  : mx_D (3, mm_X3_or, 0, [.ref 22, .int v1, .int v2], []) h = (mx_C mm_X3_and [.ref 22, .int (v1 ^^^ 1), .int (v2 ^^^ 1)] h).bind (fun o => mx_D (3, mm_X3_or, 10, [.ref 22, .int v1, .int v2], o.1.toList ++ []) o.2) := by
  refine Eq.trans (q_aload_n dX3_or_0 rfl rfl) ?_
  refine Eq.trans (q_iload_n dX3_or_1 rfl) ?_
  refine Eq.trans (q_iconst (x := 1) dX3_or_2 rfl) ?_
  refine Eq.trans (q_ixor dX3_or_3) ?_
  refine Eq.trans (q_iload_n dX3_or_4 rfl) ?_
  refine Eq.trans (q_iconst (x := 1) dX3_or_5 rfl) ?_
  refine Eq.trans (q_ixor dX3_or_6) ?_
  exact q_call0 (as := [.int (v1 ^^^ 1), .int (v2 ^^^ 1)]) (rest := []) dX3_or_7 mx_inv_3_35 rfl rfl rfl ⟨Nat.le_of_ble_eq_true rfl, Nat.le_of_ble_eq_true rfl, (Nat.le_of_ble_eq_true rfl)⟩
theorem c_X3_or (v1 : Int32) (v2 : Int32) (h : mx_H) : mx_C mm_X3_or [.ref 22, .int v1, .int v2] h = mx_D (3, mm_X3_or, 0, [.ref 22, .int v1, .int v2], []) h := rfl
theorem e_X3_or_10 (v1 : Int32) (v2 : Int32) (s0 : Int32) (h : mx_H)  : mx_D (3, mm_X3_or, 10, [.ref 22, .int v1, .int v2], [.int s0]) h = some (some (.int (s0 ^^^ 1)), h) := by
  refine Eq.trans (q_iconst (x := 1) dX3_or_10 rfl) ?_
  refine Eq.trans (q_ixor dX3_or_11) ?_
  exact q_retI dX3_or_12 rfl
theorem e_X3_xor_0 (v1 : Int32) (v2 : Int32) (h : mx_H)  : mx_D (2, mm_X3_xor, 0, [.ref 22, .int v1, .int v2], []) h = if (v1 >>> (1 &&& 31)) = (v2 >>> (1 &&& 31)) then if v1 = v2 then mx_D (2, mm_X3_xor, 19, [.ref 22, .int v1, .int v2], [.int 1]) h else (mx_D (2, mm_X3_xor, 19, [.ref 22, .int v1, .int v2], [.int 0]) h) else (if (v1 >>> (1 &&& 31)) = 0 then some (some (.int ((v2 ^^^ v1) ^^^ 1)), h) else (if (v2 >>> (1 &&& 31)) = 0 then mx_D (2, mm_X3_xor, 54, [.ref 22, .int v1, .int v2], [.int ((v1 ^^^ v2) ^^^ 1)]) h else ((mx_C mm_X3_put [.ref 22, .int 1, .int 0, .int v1, .int v2] h).bind (fun o => mx_D (2, mm_X3_xor, 54, [.ref 22, .int v1, .int v2], o.1.toList ++ []) o.2)))) := by
  refine Eq.trans (q_iload_n dX3_xor_0 rfl) ?_
  refine Eq.trans (q_iconst (x := 1) dX3_xor_1 rfl) ?_
  refine Eq.trans (q_ishr dX3_xor_2) ?_
  refine Eq.trans (q_iload_n dX3_xor_3 rfl) ?_
  refine Eq.trans (q_iconst (x := 1) dX3_xor_4 rfl) ?_
  refine Eq.trans (q_ishr dX3_xor_5) ?_
  refine Eq.trans (q_icmp_ne 20 dX3_xor_6 rfl) (q_ite2 ?_ ?_)
  · refine Eq.trans (q_iload_n dX3_xor_9 rfl) ?_
    refine Eq.trans (q_iload_n dX3_xor_10 rfl) ?_
    refine Eq.trans (q_icmp_ne 18 dX3_xor_11 rfl) (q_ite2 ?_ ?_)
    · refine Eq.trans (q_iconst (x := 1) dX3_xor_14 rfl) ?_
      refine Eq.trans (q_goto 19 dX3_xor_15 rfl) ?_
      rfl
    · refine Eq.trans (q_iconst (x := 0) dX3_xor_18 rfl) ?_
      rfl
  · refine Eq.trans (q_iload_n dX3_xor_20 rfl) ?_
    refine Eq.trans (q_iconst (x := 1) dX3_xor_21 rfl) ?_
    refine Eq.trans (q_ishr dX3_xor_22) ?_
    refine Eq.trans (q_if_ne 32 dX3_xor_23 rfl) (q_ite2 ?_ ?_)
    · refine Eq.trans (q_iload_n dX3_xor_26 rfl) ?_
      refine Eq.trans (q_iload_n dX3_xor_27 rfl) ?_
      refine Eq.trans (q_ixor dX3_xor_28) ?_
      refine Eq.trans (q_iconst (x := 1) dX3_xor_29 rfl) ?_
      refine Eq.trans (q_ixor dX3_xor_30) ?_
      exact q_retI dX3_xor_31 rfl
    · refine Eq.trans (q_iload_n dX3_xor_32 rfl) ?_
      refine Eq.trans (q_iconst (x := 1) dX3_xor_33 rfl) ?_
      refine Eq.trans (q_ishr dX3_xor_34) ?_
      refine Eq.trans (q_if_ne 46 dX3_xor_35 rfl) (q_ite2 ?_ ?_)
      · refine Eq.trans (q_iload_n dX3_xor_38 rfl) ?_
        refine Eq.trans (q_iload_n dX3_xor_39 rfl) ?_
        refine Eq.trans (q_ixor dX3_xor_40) ?_
        refine Eq.trans (q_iconst (x := 1) dX3_xor_41 rfl) ?_
        refine Eq.trans (q_ixor dX3_xor_42) ?_
        refine Eq.trans (q_goto 54 dX3_xor_43 rfl) ?_
        rfl
      · refine Eq.trans (q_aload_n dX3_xor_46 rfl rfl) ?_
        refine Eq.trans (q_iconst (x := 1) dX3_xor_47 rfl) ?_
        refine Eq.trans (q_iconst (x := 0) dX3_xor_48 rfl) ?_
        refine Eq.trans (q_iload_n dX3_xor_49 rfl) ?_
        refine Eq.trans (q_iload_n dX3_xor_50 rfl) ?_
        exact q_call0 (as := [.int 1, .int 0, .int v1, .int v2]) (rest := []) dX3_xor_51 mx_inv_3_31 rfl rfl rfl ⟨Nat.le_of_ble_eq_true rfl, Nat.le_of_ble_eq_true rfl, (Nat.le_of_ble_eq_true rfl)⟩
theorem c_X3_xor (v1 : Int32) (v2 : Int32) (h : mx_H) : mx_C mm_X3_xor [.ref 22, .int v1, .int v2] h = mx_D (2, mm_X3_xor, 0, [.ref 22, .int v1, .int v2], []) h := rfl
theorem e_X3_xor_19 (v1 : Int32) (v2 : Int32) (s0 : Int32) (h : mx_H)  : mx_D (2, mm_X3_xor, 19, [.ref 22, .int v1, .int v2], [.int s0]) h = some (some (.int s0), h) := by
  exact q_retI dX3_xor_19 rfl
theorem e_X3_xor_54 (v1 : Int32) (v2 : Int32) (s0 : Int32) (h : mx_H)  : mx_D (2, mm_X3_xor, 54, [.ref 22, .int v1, .int v2], [.int s0]) h = some (some (.int s0), h) := by
  exact q_retI dX3_xor_54 rfl
theorem e_X3_mux_0 (v1 : Int32) (v2 : Int32) (v3 : Int32) (h : mx_H)  : mx_D (3, mm_X3_mux, 0, [.ref 22, .int v1, .int v2, .int v3, mx_junk, mx_junk], []) h = if (v1 >>> (1 &&& 31)) = 0 then if v1 = 0 then mx_D (3, mm_X3_mux, 15, [.ref 22, .int v1, .int v2, .int v3, mx_junk, mx_junk], [.int v2]) h else (mx_D (3, mm_X3_mux, 15, [.ref 22, .int v1, .int v2, .int v3, mx_junk, mx_junk], [.int v3]) h) else (if (v2 >>> (1 &&& 31)) = (v1 >>> (1 &&& 31)) then mx_D (3, mm_X3_mux, 32, [.ref 22, .int v1, .int v2, .int v3, mx_junk, mx_junk], [.int (v2 ^^^ v1)]) h else (mx_D (3, mm_X3_mux, 32, [.ref 22, .int v1, .int v2, .int v3, mx_junk, mx_junk], [.int v2]) h)) := by
  refine Eq.trans (q_iload_n dX3_mux_0 rfl) ?_
  refine Eq.trans (q_iconst (x := 1) dX3_mux_1 rfl) ?_
  refine Eq.trans (q_ishr dX3_mux_2) ?_
  refine Eq.trans (q_if_ne 16 dX3_mux_3 rfl) (q_ite2 ?_ ?_)
  · refine Eq.trans (q_iload_n dX3_mux_6 rfl) ?_
    refine Eq.trans (q_if_ne 14 dX3_mux_7 rfl) (q_ite2 ?_ ?_)
    · refine Eq.trans (q_iload_n dX3_mux_10 rfl) ?_
      refine Eq.trans (q_goto 15 dX3_mux_11 rfl) ?_
      rfl
    · refine Eq.trans (q_iload_n dX3_mux_14 rfl) ?_
      rfl
  · refine Eq.trans (q_iload_n dX3_mux_16 rfl) ?_
    refine Eq.trans (q_iconst (x := 1) dX3_mux_17 rfl) ?_
    refine Eq.trans (q_ishr dX3_mux_18) ?_
    refine Eq.trans (q_iload_n dX3_mux_19 rfl) ?_
    refine Eq.trans (q_iconst (x := 1) dX3_mux_20 rfl) ?_
    refine Eq.trans (q_ishr dX3_mux_21) ?_
    refine Eq.trans (q_icmp_ne 31 dX3_mux_22 rfl) (q_ite2 ?_ ?_)
    · refine Eq.trans (q_iload_n dX3_mux_25 rfl) ?_
      refine Eq.trans (q_iload_n dX3_mux_26 rfl) ?_
      refine Eq.trans (q_ixor dX3_mux_27) ?_
      refine Eq.trans (q_goto 32 dX3_mux_28 rfl) ?_
      rfl
    · refine Eq.trans (q_iload_n dX3_mux_31 rfl) ?_
      rfl
theorem c_X3_mux (v1 : Int32) (v2 : Int32) (v3 : Int32) (h : mx_H) : mx_C mm_X3_mux [.ref 22, .int v1, .int v2, .int v3] h = mx_D (3, mm_X3_mux, 0, [.ref 22, .int v1, .int v2, .int v3, mx_junk, mx_junk], []) h := rfl
theorem e_X3_mux_15 (v1 : Int32) (v2 : Int32) (v3 : Int32) (s0 : Int32) (h : mx_H)  : mx_D (3, mm_X3_mux, 15, [.ref 22, .int v1, .int v2, .int v3, mx_junk, mx_junk], [.int s0]) h = some (some (.int s0), h) := by
  exact q_retI dX3_mux_15 rfl
theorem e_X3_mux_32 (v1 : Int32) (v2 : Int32) (v3 : Int32) (s0 : Int32) (h : mx_H)  : mx_D (3, mm_X3_mux, 32, [.ref 22, .int v1, .int v2, .int v3, mx_junk, mx_junk], [.int s0]) h = if (v3 >>> (1 &&& 31)) = (v1 >>> (1 &&& 31)) then mx_D (3, mm_X3_mux, 52, [.ref 22, .int v1, .int v2, .int v3, .int s0, mx_junk], [.int ((v3 ^^^ v1) ^^^ 1)]) h else (mx_D (3, mm_X3_mux, 52, [.ref 22, .int v1, .int v2, .int v3, .int s0, mx_junk], [.int v3]) h) := by
  refine Eq.trans (q_istore (L' := [.ref 22, .int v1, .int v2, .int v3, .int s0, mx_junk]) dX3_mux_32 (Nat.le_of_ble_eq_true rfl) rfl) ?_
  refine Eq.trans (q_iload_n dX3_mux_34 rfl) ?_
  refine Eq.trans (q_iconst (x := 1) dX3_mux_35 rfl) ?_
  refine Eq.trans (q_ishr dX3_mux_36) ?_
  refine Eq.trans (q_iload_n dX3_mux_37 rfl) ?_
  refine Eq.trans (q_iconst (x := 1) dX3_mux_38 rfl) ?_
  refine Eq.trans (q_ishr dX3_mux_39) ?_
  refine Eq.trans (q_icmp_ne 51 dX3_mux_40 rfl) (q_ite2 ?_ ?_)
  · refine Eq.trans (q_iload_n dX3_mux_43 rfl) ?_
    refine Eq.trans (q_iload_n dX3_mux_44 rfl) ?_
    refine Eq.trans (q_ixor dX3_mux_45) ?_
    refine Eq.trans (q_iconst (x := 1) dX3_mux_46 rfl) ?_
    refine Eq.trans (q_ixor dX3_mux_47) ?_
    refine Eq.trans (q_goto 52 dX3_mux_48 rfl) ?_
    rfl
  · refine Eq.trans (q_iload_n dX3_mux_51 rfl) ?_
    rfl
theorem e_X3_mux_52 (v1 : Int32) (v2 : Int32) (v3 : Int32) (v4 : Int32) (s0 : Int32) (h : mx_H)  : mx_D (3, mm_X3_mux, 52, [.ref 22, .int v1, .int v2, .int v3, .int v4, mx_junk], [.int s0]) h = if v4 = s0 then some (some (.int v4), h) else (if (v4 >>> (1 &&& 31)) = 0 then if v4 = 1 then (mx_C mm_X3_and [.ref 22, .int (v1 ^^^ 1), .int s0] h).bind (fun o => mx_D (3, mm_X3_mux, 86, [.ref 22, .int v1, .int v2, .int v3, .int v4, .int s0], o.1.toList ++ []) o.2) else ((mx_C mm_X3_and [.ref 22, .int (v1 ^^^ 1), .int (s0 ^^^ 1)] h).bind (fun o => mx_D (3, mm_X3_mux, 100, [.ref 22, .int v1, .int v2, .int v3, .int v4, .int s0], o.1.toList ++ []) o.2)) else (if (s0 >>> (1 &&& 31)) = 0 then if s0 = 1 then (mx_C mm_X3_and [.ref 22, .int v1, .int v4] h).bind (fun o => mx_D (3, mm_X3_mux, 123, [.ref 22, .int v1, .int v2, .int v3, .int v4, .int s0], o.1.toList ++ []) o.2) else ((mx_C mm_X3_and [.ref 22, .int v1, .int (v4 ^^^ 1)] h).bind (fun o => mx_D (3, mm_X3_mux, 135, [.ref 22, .int v1, .int v2, .int v3, .int v4, .int s0], o.1.toList ++ []) o.2)) else ((mx_C mm_X3_put [.ref 22, .int 2, .int v1, .int v4, .int s0] h).bind (fun o => mx_D (3, mm_X3_mux, 148, [.ref 22, .int v1, .int v2, .int v3, .int v4, .int s0], o.1.toList ++ []) o.2)))) := by
  refine Eq.trans (q_istore (L' := [.ref 22, .int v1, .int v2, .int v3, .int v4, .int s0]) dX3_mux_52 (Nat.le_of_ble_eq_true rfl) rfl) ?_
  refine Eq.trans (q_iload dX3_mux_54 rfl) ?_
  refine Eq.trans (q_iload dX3_mux_56 rfl) ?_
  refine Eq.trans (q_icmp_ne 64 dX3_mux_58 rfl) (q_ite2 ?_ ?_)
  · refine Eq.trans (q_iload dX3_mux_61 rfl) ?_
    exact q_retI dX3_mux_63 rfl
  · refine Eq.trans (q_iload dX3_mux_64 rfl) ?_
    refine Eq.trans (q_iconst (x := 1) dX3_mux_66 rfl) ?_
    refine Eq.trans (q_ishr dX3_mux_67) ?_
    refine Eq.trans (q_if_ne 103 dX3_mux_68 rfl) (q_ite2 ?_ ?_)
    · refine Eq.trans (q_iload dX3_mux_71 rfl) ?_
      refine Eq.trans (q_iconst (x := 1) dX3_mux_73 rfl) ?_
      refine Eq.trans (q_icmp_ne 89 dX3_mux_74 rfl) (q_ite2 ?_ ?_)
      · refine Eq.trans (q_aload_n dX3_mux_77 rfl rfl) ?_
        refine Eq.trans (q_iload_n dX3_mux_78 rfl) ?_
        refine Eq.trans (q_iconst (x := 1) dX3_mux_79 rfl) ?_
        refine Eq.trans (q_ixor dX3_mux_80) ?_
        refine Eq.trans (q_iload dX3_mux_81 rfl) ?_
        exact q_call0 (as := [.int (v1 ^^^ 1), .int s0]) (rest := []) dX3_mux_83 mx_inv_3_35 rfl rfl rfl ⟨Nat.le_of_ble_eq_true rfl, Nat.le_of_ble_eq_true rfl, (Nat.le_of_ble_eq_true rfl)⟩
      · refine Eq.trans (q_aload_n dX3_mux_89 rfl rfl) ?_
        refine Eq.trans (q_iload_n dX3_mux_90 rfl) ?_
        refine Eq.trans (q_iconst (x := 1) dX3_mux_91 rfl) ?_
        refine Eq.trans (q_ixor dX3_mux_92) ?_
        refine Eq.trans (q_iload dX3_mux_93 rfl) ?_
        refine Eq.trans (q_iconst (x := 1) dX3_mux_95 rfl) ?_
        refine Eq.trans (q_ixor dX3_mux_96) ?_
        exact q_call0 (as := [.int (v1 ^^^ 1), .int (s0 ^^^ 1)]) (rest := []) dX3_mux_97 mx_inv_3_35 rfl rfl rfl ⟨Nat.le_of_ble_eq_true rfl, Nat.le_of_ble_eq_true rfl, (Nat.le_of_ble_eq_true rfl)⟩
    · refine Eq.trans (q_iload dX3_mux_103 rfl) ?_
      refine Eq.trans (q_iconst (x := 1) dX3_mux_105 rfl) ?_
      refine Eq.trans (q_ishr dX3_mux_106) ?_
      refine Eq.trans (q_if_ne 138 dX3_mux_107 rfl) (q_ite2 ?_ ?_)
      · refine Eq.trans (q_iload dX3_mux_110 rfl) ?_
        refine Eq.trans (q_iconst (x := 1) dX3_mux_112 rfl) ?_
        refine Eq.trans (q_icmp_ne 126 dX3_mux_113 rfl) (q_ite2 ?_ ?_)
        · refine Eq.trans (q_aload_n dX3_mux_116 rfl rfl) ?_
          refine Eq.trans (q_iload_n dX3_mux_117 rfl) ?_
          refine Eq.trans (q_iload dX3_mux_118 rfl) ?_
          exact q_call0 (as := [.int v1, .int v4]) (rest := []) dX3_mux_120 mx_inv_3_35 rfl rfl rfl ⟨Nat.le_of_ble_eq_true rfl, Nat.le_of_ble_eq_true rfl, (Nat.le_of_ble_eq_true rfl)⟩
        · refine Eq.trans (q_aload_n dX3_mux_126 rfl rfl) ?_
          refine Eq.trans (q_iload_n dX3_mux_127 rfl) ?_
          refine Eq.trans (q_iload dX3_mux_128 rfl) ?_
          refine Eq.trans (q_iconst (x := 1) dX3_mux_130 rfl) ?_
          refine Eq.trans (q_ixor dX3_mux_131) ?_
          exact q_call0 (as := [.int v1, .int (v4 ^^^ 1)]) (rest := []) dX3_mux_132 mx_inv_3_35 rfl rfl rfl ⟨Nat.le_of_ble_eq_true rfl, Nat.le_of_ble_eq_true rfl, (Nat.le_of_ble_eq_true rfl)⟩
      · refine Eq.trans (q_aload_n dX3_mux_138 rfl rfl) ?_
        refine Eq.trans (q_iconst (x := 2) dX3_mux_139 rfl) ?_
        refine Eq.trans (q_iload_n dX3_mux_140 rfl) ?_
        refine Eq.trans (q_iload dX3_mux_141 rfl) ?_
        refine Eq.trans (q_iload dX3_mux_143 rfl) ?_
        exact q_call0 (as := [.int 2, .int v1, .int v4, .int s0]) (rest := []) dX3_mux_145 mx_inv_3_31 rfl rfl rfl ⟨Nat.le_of_ble_eq_true rfl, Nat.le_of_ble_eq_true rfl, (Nat.le_of_ble_eq_true rfl)⟩
theorem e_X3_mux_86 (v1 : Int32) (v2 : Int32) (v3 : Int32) (v4 : Int32) (v5 : Int32) (s0 : Int32) (h : mx_H)  : mx_D (3, mm_X3_mux, 86, [.ref 22, .int v1, .int v2, .int v3, .int v4, .int v5], [.int s0]) h = mx_D (3, mm_X3_mux, 102, [.ref 22, .int v1, .int v2, .int v3, .int v4, .int v5], [.int s0]) h := by
  refine Eq.trans (q_goto 102 dX3_mux_86 rfl) ?_
  rfl
theorem e_X3_mux_100 (v1 : Int32) (v2 : Int32) (v3 : Int32) (v4 : Int32) (v5 : Int32) (s0 : Int32) (h : mx_H)  : mx_D (3, mm_X3_mux, 100, [.ref 22, .int v1, .int v2, .int v3, .int v4, .int v5], [.int s0]) h = mx_D (3, mm_X3_mux, 102, [.ref 22, .int v1, .int v2, .int v3, .int v4, .int v5], [.int (s0 ^^^ 1)]) h := by
  refine Eq.trans (q_iconst (x := 1) dX3_mux_100 rfl) ?_
  refine Eq.trans (q_ixor dX3_mux_101) ?_
  rfl
theorem e_X3_mux_102 (v1 : Int32) (v2 : Int32) (v3 : Int32) (v4 : Int32) (v5 : Int32) (s0 : Int32) (h : mx_H)  : mx_D (3, mm_X3_mux, 102, [.ref 22, .int v1, .int v2, .int v3, .int v4, .int v5], [.int s0]) h = some (some (.int s0), h) := by
  exact q_retI dX3_mux_102 rfl
theorem e_X3_mux_123 (v1 : Int32) (v2 : Int32) (v3 : Int32) (v4 : Int32) (v5 : Int32) (s0 : Int32) (h : mx_H)  : mx_D (3, mm_X3_mux, 123, [.ref 22, .int v1, .int v2, .int v3, .int v4, .int v5], [.int s0]) h = mx_D (3, mm_X3_mux, 137, [.ref 22, .int v1, .int v2, .int v3, .int v4, .int v5], [.int s0]) h := by
  refine Eq.trans (q_goto 137 dX3_mux_123 rfl) ?_
  rfl
theorem e_X3_mux_135 (v1 : Int32) (v2 : Int32) (v3 : Int32) (v4 : Int32) (v5 : Int32) (s0 : Int32) (h : mx_H)  : mx_D (3, mm_X3_mux, 135, [.ref 22, .int v1, .int v2, .int v3, .int v4, .int v5], [.int s0]) h = mx_D (3, mm_X3_mux, 137, [.ref 22, .int v1, .int v2, .int v3, .int v4, .int v5], [.int (s0 ^^^ 1)]) h := by
  refine Eq.trans (q_iconst (x := 1) dX3_mux_135 rfl) ?_
  refine Eq.trans (q_ixor dX3_mux_136) ?_
  rfl
theorem e_X3_mux_137 (v1 : Int32) (v2 : Int32) (v3 : Int32) (v4 : Int32) (v5 : Int32) (s0 : Int32) (h : mx_H)  : mx_D (3, mm_X3_mux, 137, [.ref 22, .int v1, .int v2, .int v3, .int v4, .int v5], [.int s0]) h = some (some (.int s0), h) := by
  exact q_retI dX3_mux_137 rfl
theorem e_X3_mux_148 (v1 : Int32) (v2 : Int32) (v3 : Int32) (v4 : Int32) (v5 : Int32) (s0 : Int32) (h : mx_H)  : mx_D (3, mm_X3_mux, 148, [.ref 22, .int v1, .int v2, .int v3, .int v4, .int v5], [.int s0]) h = some (some (.int s0), h) := by
  exact q_retI dX3_mux_148 rfl
theorem e_X3_put_0 (v1 : Int32) (v2 : Int32) (v3 : Int32) (v4 : Int32) (h : mx_H)  : mx_D (1, mm_X3_put, 0, [.ref 22, .int v1, .int v2, .int v3, .int v4], []) h = if (h.1 22 5) < 1065 then if mx_in (h.1 22 5) 1065 = true then if mx_in ((mx_u h.1 23 ((h.1 22 5).toNatClampNeg) v1) 22 5) 1065 = true then if mx_in ((mx_u (mx_u h.1 23 ((h.1 22 5).toNatClampNeg) v1) 26 (((mx_u h.1 23 ((h.1 22 5).toNatClampNeg) v1) 22 5).toNatClampNeg) v2) 22 5) 1065 = true then if mx_in ((mx_u (mx_u (mx_u h.1 23 ((h.1 22 5).toNatClampNeg) v1) 26 (((mx_u h.1 23 ((h.1 22 5).toNatClampNeg) v1) 22 5).toNatClampNeg) v2) 24 (((mx_u (mx_u h.1 23 ((h.1 22 5).toNatClampNeg) v1) 26 (((mx_u h.1 23 ((h.1 22 5).toNatClampNeg) v1) 22 5).toNatClampNeg) v2) 22 5).toNatClampNeg) v3) 22 5) 1065 = true then some (some (.int (2 * (((mx_u (mx_u (mx_u (mx_u (mx_u h.1 23 ((h.1 22 5).toNatClampNeg) v1) 26 (((mx_u h.1 23 ((h.1 22 5).toNatClampNeg) v1) 22 5).toNatClampNeg) v2) 24 (((mx_u (mx_u h.1 23 ((h.1 22 5).toNatClampNeg) v1) 26 (((mx_u h.1 23 ((h.1 22 5).toNatClampNeg) v1) 22 5).toNatClampNeg) v2) 22 5).toNatClampNeg) v3) 25 (((mx_u (mx_u (mx_u h.1 23 ((h.1 22 5).toNatClampNeg) v1) 26 (((mx_u h.1 23 ((h.1 22 5).toNatClampNeg) v1) 22 5).toNatClampNeg) v2) 24 (((mx_u (mx_u h.1 23 ((h.1 22 5).toNatClampNeg) v1) 26 (((mx_u h.1 23 ((h.1 22 5).toNatClampNeg) v1) 22 5).toNatClampNeg) v2) 22 5).toNatClampNeg) v3) 22 5).toNatClampNeg) v4) 22 5 (((mx_u (mx_u (mx_u (mx_u h.1 23 ((h.1 22 5).toNatClampNeg) v1) 26 (((mx_u h.1 23 ((h.1 22 5).toNatClampNeg) v1) 22 5).toNatClampNeg) v2) 24 (((mx_u (mx_u h.1 23 ((h.1 22 5).toNatClampNeg) v1) 26 (((mx_u h.1 23 ((h.1 22 5).toNatClampNeg) v1) 22 5).toNatClampNeg) v2) 22 5).toNatClampNeg) v3) 25 (((mx_u (mx_u (mx_u h.1 23 ((h.1 22 5).toNatClampNeg) v1) 26 (((mx_u h.1 23 ((h.1 22 5).toNatClampNeg) v1) 22 5).toNatClampNeg) v2) 24 (((mx_u (mx_u h.1 23 ((h.1 22 5).toNatClampNeg) v1) 26 (((mx_u h.1 23 ((h.1 22 5).toNatClampNeg) v1) 22 5).toNatClampNeg) v2) 22 5).toNatClampNeg) v3) 22 5).toNatClampNeg) v4) 22 5) + 1)) 22 5) - 1))), ((mx_u (mx_u (mx_u (mx_u (mx_u h.1 23 ((h.1 22 5).toNatClampNeg) v1) 26 (((mx_u h.1 23 ((h.1 22 5).toNatClampNeg) v1) 22 5).toNatClampNeg) v2) 24 (((mx_u (mx_u h.1 23 ((h.1 22 5).toNatClampNeg) v1) 26 (((mx_u h.1 23 ((h.1 22 5).toNatClampNeg) v1) 22 5).toNatClampNeg) v2) 22 5).toNatClampNeg) v3) 25 (((mx_u (mx_u (mx_u h.1 23 ((h.1 22 5).toNatClampNeg) v1) 26 (((mx_u h.1 23 ((h.1 22 5).toNatClampNeg) v1) 22 5).toNatClampNeg) v2) 24 (((mx_u (mx_u h.1 23 ((h.1 22 5).toNatClampNeg) v1) 26 (((mx_u h.1 23 ((h.1 22 5).toNatClampNeg) v1) 22 5).toNatClampNeg) v2) 22 5).toNatClampNeg) v3) 22 5).toNatClampNeg) v4) 22 5 (((mx_u (mx_u (mx_u (mx_u h.1 23 ((h.1 22 5).toNatClampNeg) v1) 26 (((mx_u h.1 23 ((h.1 22 5).toNatClampNeg) v1) 22 5).toNatClampNeg) v2) 24 (((mx_u (mx_u h.1 23 ((h.1 22 5).toNatClampNeg) v1) 26 (((mx_u h.1 23 ((h.1 22 5).toNatClampNeg) v1) 22 5).toNatClampNeg) v2) 22 5).toNatClampNeg) v3) 25 (((mx_u (mx_u (mx_u h.1 23 ((h.1 22 5).toNatClampNeg) v1) 26 (((mx_u h.1 23 ((h.1 22 5).toNatClampNeg) v1) 22 5).toNatClampNeg) v2) 24 (((mx_u (mx_u h.1 23 ((h.1 22 5).toNatClampNeg) v1) 26 (((mx_u h.1 23 ((h.1 22 5).toNatClampNeg) v1) 22 5).toNatClampNeg) v2) 22 5).toNatClampNeg) v3) 22 5).toNatClampNeg) v4) 22 5) + 1)), h.2.1, h.2.2)) else none else none else none else none else (some (some (.int 1), h)) := by
  refine Eq.trans (q_aload_n dX3_put_0 rfl rfl) ?_
  refine Eq.trans (q_getf dX3_put_1 mx_fld_3_27 (gf_22_5 _)) ?_
  refine Eq.trans (q_sipush (x := 1065) dX3_put_4 rfl) ?_
  refine Eq.trans (q_icmp_lt 12 dX3_put_7 rfl) (q_ite2 ?_ ?_)
  · refine Eq.trans (q_aload_n dX3_put_12 rfl rfl) ?_
    refine Eq.trans (q_getf dX3_put_13 mx_fld_3_9 (gf_22_0 _)) ?_
    refine Eq.trans (q_aload_n dX3_put_16 rfl rfl) ?_
    refine Eq.trans (q_getf dX3_put_17 mx_fld_3_27 (gf_22_5 _)) ?_
    refine Eq.trans (q_iload_n dX3_put_20 rfl) ?_
    refine Eq.trans (q_st (w := 0) (by decide) dX3_put_21 (as_23 _ _ _)) (q_ite ?_)
    refine Eq.trans (q_aload_n dX3_put_22 rfl rfl) ?_
    refine Eq.trans (q_getf dX3_put_23 mx_fld_3_21 (gf_22_3 _)) ?_
    refine Eq.trans (q_aload_n dX3_put_26 rfl rfl) ?_
    refine Eq.trans (q_getf dX3_put_27 mx_fld_3_27 (gf_22_5 _)) ?_
    refine Eq.trans (q_iload_n dX3_put_30 rfl) ?_
    refine Eq.trans (q_st (w := 0) (by decide) dX3_put_31 (as_26 _ _ _)) (q_ite ?_)
    refine Eq.trans (q_aload_n dX3_put_32 rfl rfl) ?_
    refine Eq.trans (q_getf dX3_put_33 mx_fld_3_15 (gf_22_1 _)) ?_
    refine Eq.trans (q_aload_n dX3_put_36 rfl rfl) ?_
    refine Eq.trans (q_getf dX3_put_37 mx_fld_3_27 (gf_22_5 _)) ?_
    refine Eq.trans (q_iload_n dX3_put_40 rfl) ?_
    refine Eq.trans (q_st (w := 0) (by decide) dX3_put_41 (as_24 _ _ _)) (q_ite ?_)
    refine Eq.trans (q_aload_n dX3_put_42 rfl rfl) ?_
    refine Eq.trans (q_getf dX3_put_43 mx_fld_3_18 (gf_22_2 _)) ?_
    refine Eq.trans (q_aload_n dX3_put_46 rfl rfl) ?_
    refine Eq.trans (q_getf dX3_put_47 mx_fld_3_27 (gf_22_5 _)) ?_
    refine Eq.trans (q_iload dX3_put_50 rfl) ?_
    refine Eq.trans (q_st (w := 0) (by decide) dX3_put_52 (as_25 _ _ _)) (q_ite ?_)
    refine Eq.trans (q_aload_n dX3_put_53 rfl rfl) ?_
    refine Eq.trans (q_dup dX3_put_54 rfl) ?_
    refine Eq.trans (q_getf dX3_put_55 mx_fld_3_27 (gf_22_5 _)) ?_
    refine Eq.trans (q_iconst (x := 1) dX3_put_58 rfl) ?_
    refine Eq.trans (q_iadd dX3_put_59) ?_
    refine Eq.trans (q_putf dX3_put_60 mx_fld_3_27 (pf_22_5 _ _)) ?_
    refine Eq.trans (q_iconst (x := 2) dX3_put_63 rfl) ?_
    refine Eq.trans (q_aload_n dX3_put_64 rfl rfl) ?_
    refine Eq.trans (q_getf dX3_put_65 mx_fld_3_27 (gf_22_5 _)) ?_
    refine Eq.trans (q_iconst (x := 1) dX3_put_68 rfl) ?_
    refine Eq.trans (q_isub dX3_put_69) ?_
    refine Eq.trans (q_imul dX3_put_70) ?_
    exact q_retI dX3_put_71 rfl
  · refine Eq.trans (q_iconst (x := 1) dX3_put_10 rfl) ?_
    exact q_retI dX3_put_11 rfl
theorem c_X3_put (v1 : Int32) (v2 : Int32) (v3 : Int32) (v4 : Int32) (h : mx_H) : mx_C mm_X3_put [.ref 22, .int v1, .int v2, .int v3, .int v4] h = mx_D (1, mm_X3_put, 0, [.ref 22, .int v1, .int v2, .int v3, .int v4], []) h := rfl
theorem e_X3_simulate_0 (v1 : Int32) (v2 : Int32) (h : mx_H)  : mx_D (3, mm_X3_simulate, 0, [.ref 22, .int v1, .int v2, mx_junk, mx_junk], []) h = if (v1 >>> (1 &&& 31)) < 0 then mx_D (3, mm_X3_simulate, 16, [.ref 22, .int v1, .int v2, .int (v1 >>> (1 &&& 31)), mx_junk], []) h else (if (v1 >>> (1 &&& 31)) < (h.1 22 5) then if mx_in 0 1065 = true then mx_D (3, mm_X3_simulate, 28, [.ref 22, .int v1, .int v2, .int (v1 >>> (1 &&& 31)), .int 0], []) ((mx_u h.1 27 ((0 : Int32).toNatClampNeg) 1), h.2.1, h.2.2) else none else (mx_D (3, mm_X3_simulate, 16, [.ref 22, .int v1, .int v2, .int (v1 >>> (1 &&& 31)), mx_junk], []) h)) := by
  refine Eq.trans (q_iload_n dX3_simulate_0 rfl) ?_
  refine Eq.trans (q_iconst (x := 1) dX3_simulate_1 rfl) ?_
  refine Eq.trans (q_ishr dX3_simulate_2) ?_
  refine Eq.trans (q_istore_n (L' := [.ref 22, .int v1, .int v2, .int (v1 >>> (1 &&& 31)), mx_junk]) dX3_simulate_3 (Nat.le_of_ble_eq_true rfl) rfl) ?_
  refine Eq.trans (q_iload_n dX3_simulate_4 rfl) ?_
  refine Eq.trans (q_if_lt 16 dX3_simulate_5 rfl) (q_ite2 ?_ ?_)
  · rfl
  · refine Eq.trans (q_iload_n dX3_simulate_8 rfl) ?_
    refine Eq.trans (q_aload_n dX3_simulate_9 rfl rfl) ?_
    refine Eq.trans (q_getf dX3_simulate_10 mx_fld_3_27 (gf_22_5 _)) ?_
    refine Eq.trans (q_icmp_lt 18 dX3_simulate_13 rfl) (q_ite2 ?_ ?_)
    · refine Eq.trans (q_aload_n dX3_simulate_18 rfl rfl) ?_
      refine Eq.trans (q_getf dX3_simulate_19 mx_fld_3_24 (gf_22_4 _)) ?_
      refine Eq.trans (q_iconst (x := 0) dX3_simulate_22 rfl) ?_
      refine Eq.trans (q_iconst (x := 1) dX3_simulate_23 rfl) ?_
      refine Eq.trans (q_st (w := 0) (by decide) dX3_simulate_24 (as_27 _ _ _)) (q_ite ?_)
      refine Eq.trans (q_iconst (x := 0) dX3_simulate_25 rfl) ?_
      refine Eq.trans (q_istore (L' := [.ref 22, .int v1, .int v2, .int (v1 >>> (1 &&& 31)), .int 0]) dX3_simulate_26 (Nat.le_of_ble_eq_true rfl) rfl) ?_
      rfl
    · rfl
theorem c_X3_simulate (v1 : Int32) (v2 : Int32) (h : mx_H) : mx_C mm_X3_simulate [.ref 22, .int v1, .int v2] h = mx_D (3, mm_X3_simulate, 0, [.ref 22, .int v1, .int v2, mx_junk, mx_junk], []) h := rfl
theorem e_X3_simulate_16 (v1 : Int32) (v2 : Int32) (v3 : Int32) (h : mx_H)  : mx_D (3, mm_X3_simulate, 16, [.ref 22, .int v1, .int v2, .int v3, mx_junk], []) h = some (some (.int 0), h) := by
  refine Eq.trans (q_iconst (x := 0) dX3_simulate_16 rfl) ?_
  exact q_retI dX3_simulate_17 rfl
theorem e_X3_simulate_28 (v1 : Int32) (v2 : Int32) (v3 : Int32) (v4 : Int32) (h : mx_H)  : mx_D (3, mm_X3_simulate, 28, [.ref 22, .int v1, .int v2, .int v3, .int v4], []) h = if 8 ≤ v4 then mx_D (3, mm_X3_simulate, 60, [.ref 22, .int v1, .int v2, .int v3, .int 9], []) h else (if mx_in (1 + v4) 1065 = true then mx_D (3, mm_X3_simulate, 28, [.ref 22, .int v1, .int v2, .int v3, .int (v4 + 1)], []) ((mx_u h.1 27 ((1 + v4).toNatClampNeg) ((v2 >>> (v4 &&& 31)) &&& 1)), h.2.1, h.2.2) else none) := by
  refine Eq.trans (q_iload dX3_simulate_28 rfl) ?_
  refine Eq.trans (q_bipush (x := 8) dX3_simulate_30 rfl) ?_
  refine Eq.trans (q_icmp_ge 56 dX3_simulate_32 rfl) (q_ite2 ?_ ?_)
  · refine Eq.trans (q_bipush (x := 9) dX3_simulate_56 rfl) ?_
    refine Eq.trans (q_istore (L' := [.ref 22, .int v1, .int v2, .int v3, .int 9]) dX3_simulate_58 (Nat.le_of_ble_eq_true rfl) rfl) ?_
    rfl
  · refine Eq.trans (q_aload_n dX3_simulate_35 rfl rfl) ?_
    refine Eq.trans (q_getf dX3_simulate_36 mx_fld_3_24 (gf_22_4 _)) ?_
    refine Eq.trans (q_iconst (x := 1) dX3_simulate_39 rfl) ?_
    refine Eq.trans (q_iload dX3_simulate_40 rfl) ?_
    refine Eq.trans (q_iadd dX3_simulate_42) ?_
    refine Eq.trans (q_iload_n dX3_simulate_43 rfl) ?_
    refine Eq.trans (q_iload dX3_simulate_44 rfl) ?_
    refine Eq.trans (q_ishr dX3_simulate_46) ?_
    refine Eq.trans (q_iconst (x := 1) dX3_simulate_47 rfl) ?_
    refine Eq.trans (q_iand dX3_simulate_48) ?_
    refine Eq.trans (q_st (w := 0) (by decide) dX3_simulate_49 (as_27 _ _ _)) (q_ite ?_)
    refine Eq.trans (q_iinc (x' := 1) (L' := [.ref 22, .int v1, .int v2, .int v3, .int (v4 + 1)]) dX3_simulate_50 rfl rfl rfl) ?_
    refine Eq.trans (q_goto 28 dX3_simulate_53 rfl) ?_
    rfl
theorem e_X3_simulate_60 (v1 : Int32) (v2 : Int32) (v3 : Int32) (v4 : Int32) (h : mx_H)  : mx_D (3, mm_X3_simulate, 60, [.ref 22, .int v1, .int v2, .int v3, .int v4], []) h = if v3 < v4 then (mx_C mm_X3_valueOf [.ref 22, .int v1] h).bind (fun o => mx_D (3, mm_X3_simulate, 90, [.ref 22, .int v1, .int v2, .int v3, .int v4], o.1.toList ++ []) o.2) else ((mx_C mm_X3_simulateGate [.ref 22, .int v4] h).bind (fun o => mx_D (3, mm_X3_simulate, 78, [.ref 22, .int v1, .int v2, .int v3, .int v4], o.1.toList ++ [.int v4, .ref 27]) o.2)) := by
  refine Eq.trans (q_iload dX3_simulate_60 rfl) ?_
  refine Eq.trans (q_iload_n dX3_simulate_62 rfl) ?_
  refine Eq.trans (q_icmp_gt 85 dX3_simulate_63 rfl) (q_ite2 ?_ ?_)
  · refine Eq.trans (q_aload_n dX3_simulate_85 rfl rfl) ?_
    refine Eq.trans (q_iload_n dX3_simulate_86 rfl) ?_
    exact q_call0 (as := [.int v1]) (rest := []) dX3_simulate_87 mx_inv_3_43 rfl rfl rfl ⟨Nat.le_of_ble_eq_true rfl, Nat.le_of_ble_eq_true rfl, (Nat.le_of_ble_eq_true rfl)⟩
  · refine Eq.trans (q_aload_n dX3_simulate_66 rfl rfl) ?_
    refine Eq.trans (q_getf dX3_simulate_67 mx_fld_3_24 (gf_22_4 _)) ?_
    refine Eq.trans (q_iload dX3_simulate_70 rfl) ?_
    refine Eq.trans (q_aload_n dX3_simulate_72 rfl rfl) ?_
    refine Eq.trans (q_iload dX3_simulate_73 rfl) ?_
    exact q_call0 (as := [.int v4]) (rest := [.int v4, .ref 27]) dX3_simulate_75 mx_inv_3_39 rfl rfl rfl ⟨Nat.le_of_ble_eq_true rfl, Nat.le_of_ble_eq_true rfl, (Nat.le_of_ble_eq_true rfl)⟩
theorem e_X3_simulate_78 (v1 : Int32) (v2 : Int32) (v3 : Int32) (v4 : Int32) (s1 : Int32) (s2 : Int32) (h : mx_H)  : mx_D (3, mm_X3_simulate, 78, [.ref 22, .int v1, .int v2, .int v3, .int v4], [.int s2, .int s1, .ref 27]) h = if mx_in s1 1065 = true then mx_D (3, mm_X3_simulate, 60, [.ref 22, .int v1, .int v2, .int v3, .int (v4 + 1)], []) ((mx_u h.1 27 s1.toNatClampNeg s2), h.2.1, h.2.2) else none := by
  refine Eq.trans (q_st (w := 0) (by decide) dX3_simulate_78 (as_27 _ _ _)) (q_ite ?_)
  refine Eq.trans (q_iinc (x' := 1) (L' := [.ref 22, .int v1, .int v2, .int v3, .int (v4 + 1)]) dX3_simulate_79 rfl rfl rfl) ?_
  refine Eq.trans (q_goto 60 dX3_simulate_82 rfl) ?_
  rfl
theorem e_X3_simulate_90 (v1 : Int32) (v2 : Int32) (v3 : Int32) (v4 : Int32) (s0 : Int32) (h : mx_H)  : mx_D (3, mm_X3_simulate, 90, [.ref 22, .int v1, .int v2, .int v3, .int v4], [.int s0]) h = some (some (.int s0), h) := by
  exact q_retI dX3_simulate_90 rfl
theorem e_X3_simulateGate_0 (v1 : Int32) (h : mx_H)  : mx_D (2, mm_X3_simulateGate, 0, [.ref 22, .int v1, mx_junk, mx_junk], []) h = if mx_in v1 1065 = true then (mx_C mm_X3_valueOf [.ref 22, .int (h.1 24 v1.toNatClampNeg)] h).bind (fun o => mx_D (2, mm_X3_simulateGate, 10, [.ref 22, .int v1, mx_junk, mx_junk], o.1.toList ++ []) o.2) else none := by
  refine Eq.trans (q_aload_n dX3_simulateGate_0 rfl rfl) ?_
  refine Eq.trans (q_aload_n dX3_simulateGate_1 rfl rfl) ?_
  refine Eq.trans (q_getf dX3_simulateGate_2 mx_fld_3_15 (gf_22_1 _)) ?_
  refine Eq.trans (q_iload_n dX3_simulateGate_5 rfl) ?_
  refine Eq.trans (q_ld (w := 0) (by decide) dX3_simulateGate_6 (al_24 _ _)) (q_ite ?_)
  exact q_call0 (as := [.int (h.1 24 v1.toNatClampNeg)]) (rest := []) dX3_simulateGate_7 mx_inv_3_43 rfl rfl rfl ⟨Nat.le_of_ble_eq_true rfl, Nat.le_of_ble_eq_true rfl, (Nat.le_of_ble_eq_true rfl)⟩
theorem c_X3_simulateGate (v1 : Int32) (h : mx_H) : mx_C mm_X3_simulateGate [.ref 22, .int v1] h = mx_D (2, mm_X3_simulateGate, 0, [.ref 22, .int v1, mx_junk, mx_junk], []) h := rfl
theorem e_X3_simulateGate_10 (v1 : Int32) (s0 : Int32) (h : mx_H)  : mx_D (2, mm_X3_simulateGate, 10, [.ref 22, .int v1, mx_junk, mx_junk], [.int s0]) h = if mx_in v1 1065 = true then (mx_C mm_X3_valueOf [.ref 22, .int (h.1 25 v1.toNatClampNeg)] h).bind (fun o => mx_D (2, mm_X3_simulateGate, 21, [.ref 22, .int v1, .int s0, mx_junk], o.1.toList ++ []) o.2) else none := by
  refine Eq.trans (q_istore_n (L' := [.ref 22, .int v1, .int s0, mx_junk]) dX3_simulateGate_10 (Nat.le_of_ble_eq_true rfl) rfl) ?_
  refine Eq.trans (q_aload_n dX3_simulateGate_11 rfl rfl) ?_
  refine Eq.trans (q_aload_n dX3_simulateGate_12 rfl rfl) ?_
  refine Eq.trans (q_getf dX3_simulateGate_13 mx_fld_3_18 (gf_22_2 _)) ?_
  refine Eq.trans (q_iload_n dX3_simulateGate_16 rfl) ?_
  refine Eq.trans (q_ld (w := 0) (by decide) dX3_simulateGate_17 (al_25 _ _)) (q_ite ?_)
  exact q_call0 (as := [.int (h.1 25 v1.toNatClampNeg)]) (rest := []) dX3_simulateGate_18 mx_inv_3_43 rfl rfl rfl ⟨Nat.le_of_ble_eq_true rfl, Nat.le_of_ble_eq_true rfl, (Nat.le_of_ble_eq_true rfl)⟩
theorem e_X3_simulateGate_21 (v1 : Int32) (v2 : Int32) (s0 : Int32) (h : mx_H)  : mx_D (2, mm_X3_simulateGate, 21, [.ref 22, .int v1, .int v2, mx_junk], [.int s0]) h = if mx_in v1 1065 = true then mx_D (2, mm_X3_simulateGate, 28, [.ref 22, .int v1, .int v2, .int s0], [.int (h.1 23 v1.toNatClampNeg)]) h else none := by
  refine Eq.trans (q_istore_n (L' := [.ref 22, .int v1, .int v2, .int s0]) dX3_simulateGate_21 (Nat.le_of_ble_eq_true rfl) rfl) ?_
  refine Eq.trans (q_aload_n dX3_simulateGate_22 rfl rfl) ?_
  refine Eq.trans (q_getf dX3_simulateGate_23 mx_fld_3_9 (gf_22_0 _)) ?_
  refine Eq.trans (q_iload_n dX3_simulateGate_26 rfl) ?_
  refine Eq.trans (q_ld (w := 0) (by decide) dX3_simulateGate_27 (al_23 _ _)) (q_ite ?_)
  rfl
theorem e_X3_simulateGate_28_0 (v1 : Int32) (v2 : Int32) (v3 : Int32) (h : mx_H) : mx_D (2, mm_X3_simulateGate, 28, [.ref 22, .int v1, .int v2, .int v3], [.int 0]) h = mx_D (2, mm_X3_simulateGate, 56, [.ref 22, .int v1, .int v2, .int v3], []) h := q_lsw 56 dX3_simulateGate_28 (by decide) rfl rfl
theorem e_X3_simulateGate_28_1 (v1 : Int32) (v2 : Int32) (v3 : Int32) (h : mx_H) : mx_D (2, mm_X3_simulateGate, 28, [.ref 22, .int v1, .int v2, .int v3], [.int 1]) h = mx_D (2, mm_X3_simulateGate, 60, [.ref 22, .int v1, .int v2, .int v3], []) h := q_lsw 60 dX3_simulateGate_28 (by decide) rfl rfl
theorem e_X3_simulateGate_56 (v1 : Int32) (v2 : Int32) (v3 : Int32) (h : mx_H)  : mx_D (2, mm_X3_simulateGate, 56, [.ref 22, .int v1, .int v2, .int v3], []) h = some (some (.int (v2 &&& v3)), h) := by
  refine Eq.trans (q_iload_n dX3_simulateGate_56 rfl) ?_
  refine Eq.trans (q_iload_n dX3_simulateGate_57 rfl) ?_
  refine Eq.trans (q_iand dX3_simulateGate_58) ?_
  exact q_retI dX3_simulateGate_59 rfl
theorem e_X3_simulateGate_60 (v1 : Int32) (v2 : Int32) (v3 : Int32) (h : mx_H)  : mx_D (2, mm_X3_simulateGate, 60, [.ref 22, .int v1, .int v2, .int v3], []) h = some (some (.int (v2 ^^^ v3)), h) := by
  refine Eq.trans (q_iload_n dX3_simulateGate_60 rfl) ?_
  refine Eq.trans (q_iload_n dX3_simulateGate_61 rfl) ?_
  refine Eq.trans (q_ixor dX3_simulateGate_62) ?_
  exact q_retI dX3_simulateGate_63 rfl
theorem e_X3_simulateGate_64 (v1 : Int32) (v2 : Int32) (v3 : Int32) (h : mx_H)  : mx_D (2, mm_X3_simulateGate, 64, [.ref 22, .int v1, .int v2, .int v3], []) h = if mx_in v1 1065 = true then (mx_C mm_X3_valueOf [.ref 22, .int (h.1 26 v1.toNatClampNeg)] h).bind (fun o => mx_D (2, mm_X3_simulateGate, 74, [.ref 22, .int v1, .int v2, .int v3], o.1.toList ++ []) o.2) else none := by
  refine Eq.trans (q_aload_n dX3_simulateGate_64 rfl rfl) ?_
  refine Eq.trans (q_aload_n dX3_simulateGate_65 rfl rfl) ?_
  refine Eq.trans (q_getf dX3_simulateGate_66 mx_fld_3_21 (gf_22_3 _)) ?_
  refine Eq.trans (q_iload_n dX3_simulateGate_69 rfl) ?_
  refine Eq.trans (q_ld (w := 0) (by decide) dX3_simulateGate_70 (al_26 _ _)) (q_ite ?_)
  exact q_call0 (as := [.int (h.1 26 v1.toNatClampNeg)]) (rest := []) dX3_simulateGate_71 mx_inv_3_43 rfl rfl rfl ⟨Nat.le_of_ble_eq_true rfl, Nat.le_of_ble_eq_true rfl, (Nat.le_of_ble_eq_true rfl)⟩
theorem e_X3_simulateGate_74 (v1 : Int32) (v2 : Int32) (v3 : Int32) (s0 : Int32) (h : mx_H)  : mx_D (2, mm_X3_simulateGate, 74, [.ref 22, .int v1, .int v2, .int v3], [.int s0]) h = if s0 = 1 then mx_D (2, mm_X3_simulateGate, 83, [.ref 22, .int v1, .int v2, .int v3], [.int v2]) h else (mx_D (2, mm_X3_simulateGate, 83, [.ref 22, .int v1, .int v2, .int v3], [.int v3]) h) := by
  refine Eq.trans (q_iconst (x := 1) dX3_simulateGate_74 rfl) ?_
  refine Eq.trans (q_icmp_ne 82 dX3_simulateGate_75 rfl) (q_ite2 ?_ ?_)
  · refine Eq.trans (q_iload_n dX3_simulateGate_78 rfl) ?_
    refine Eq.trans (q_goto 83 dX3_simulateGate_79 rfl) ?_
    rfl
  · refine Eq.trans (q_iload_n dX3_simulateGate_82 rfl) ?_
    rfl
theorem e_X3_simulateGate_83 (v1 : Int32) (v2 : Int32) (v3 : Int32) (s0 : Int32) (h : mx_H)  : mx_D (2, mm_X3_simulateGate, 83, [.ref 22, .int v1, .int v2, .int v3], [.int s0]) h = some (some (.int s0), h) := by
  exact q_retI dX3_simulateGate_83 rfl
theorem e_X3_valueOf_0 (v1 : Int32) (h : mx_H)  : mx_D (1, mm_X3_valueOf, 0, [.ref 22, .int v1], []) h = if mx_in (v1 >>> (1 &&& 31)) 1065 = true then some (some (.int ((h.1 27 ((v1 >>> (1 &&& 31)).toNatClampNeg)) ^^^ (v1 &&& 1))), h) else none := by
  refine Eq.trans (q_aload_n dX3_valueOf_0 rfl rfl) ?_
  refine Eq.trans (q_getf dX3_valueOf_1 mx_fld_3_24 (gf_22_4 _)) ?_
  refine Eq.trans (q_iload_n dX3_valueOf_4 rfl) ?_
  refine Eq.trans (q_iconst (x := 1) dX3_valueOf_5 rfl) ?_
  refine Eq.trans (q_ishr dX3_valueOf_6) ?_
  refine Eq.trans (q_ld (w := 0) (by decide) dX3_valueOf_7 (al_27 _ _)) (q_ite ?_)
  refine Eq.trans (q_iload_n dX3_valueOf_8 rfl) ?_
  refine Eq.trans (q_iconst (x := 1) dX3_valueOf_9 rfl) ?_
  refine Eq.trans (q_iand dX3_valueOf_10) ?_
  refine Eq.trans (q_ixor dX3_valueOf_11) ?_
  exact q_retI dX3_valueOf_12 rfl
theorem c_X3_valueOf (v1 : Int32) (h : mx_H) : mx_C mm_X3_valueOf [.ref 22, .int v1] h = mx_D (1, mm_X3_valueOf, 0, [.ref 22, .int v1], []) h := rfl
