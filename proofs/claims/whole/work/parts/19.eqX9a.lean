theorem e_X9_isHeavy_0 (v0 : Nat) (hw_v0 : 1000 ≤ v0 ∧ v0 < 1042) (h : mx_H)  : mx_D (1, mm_X9_isHeavy, 0, [.ref v0], []) h = if (.ref v0 : Value) = .ref 1026 then mx_D (1, mm_X9_isHeavy, 21, [.ref v0], []) h else (if (.ref v0 : Value) = .ref 1027 then mx_D (1, mm_X9_isHeavy, 21, [.ref v0], []) h else (if (.ref v0 : Value) = .ref 1028 then mx_D (1, mm_X9_isHeavy, 21, [.ref v0], []) h else (mx_D (1, mm_X9_isHeavy, 26, [.ref v0], [.int 0]) h))) := by
  refine Eq.trans (q_aload_n dX9_isHeavy_0 rfl rfl) ?_
  refine Eq.trans (q_gets dX9_isHeavy_1 mx_sta_9_84) ?_
  refine Eq.trans (q_acmp_eq 21 dX9_isHeavy_4 (decide_eq_true hw_v0) rfl rfl) (q_ite2 ?_ ?_)
  · rfl
  · refine Eq.trans (q_aload_n dX9_isHeavy_7 rfl rfl) ?_
    refine Eq.trans (q_gets dX9_isHeavy_8 mx_sta_9_87) ?_
    refine Eq.trans (q_acmp_eq 21 dX9_isHeavy_11 (decide_eq_true hw_v0) rfl rfl) (q_ite2 ?_ ?_)
    · rfl
    · refine Eq.trans (q_aload_n dX9_isHeavy_14 rfl rfl) ?_
      refine Eq.trans (q_gets dX9_isHeavy_15 mx_sta_9_90) ?_
      refine Eq.trans (q_acmp_ne 25 dX9_isHeavy_18 (decide_eq_true hw_v0) rfl rfl) (q_ite2 ?_ ?_)
      · rfl
      · refine Eq.trans (q_iconst (x := 0) dX9_isHeavy_25 rfl) ?_
        rfl
theorem c_X9_isHeavy (v0 : Nat) (hw_v0 : 1000 ≤ v0 ∧ v0 < 1042) (h : mx_H) : mx_C mm_X9_isHeavy [.ref v0] h = mx_D (1, mm_X9_isHeavy, 0, [.ref v0], []) h := rfl
theorem e_X9_isHeavy_21 (v0 : Nat) (hw_v0 : 1000 ≤ v0 ∧ v0 < 1042) (h : mx_H)  : mx_D (1, mm_X9_isHeavy, 21, [.ref v0], []) h = mx_D (1, mm_X9_isHeavy, 26, [.ref v0], [.int 1]) h := by
  refine Eq.trans (q_iconst (x := 1) dX9_isHeavy_21 rfl) ?_
  refine Eq.trans (q_goto 26 dX9_isHeavy_22 rfl) ?_
  rfl
theorem e_X9_isHeavy_26 (v0 : Nat) (hw_v0 : 1000 ≤ v0 ∧ v0 < 1042) (s0 : Int32) (h : mx_H)  : mx_D (1, mm_X9_isHeavy, 26, [.ref v0], [.int s0]) h = if narrow .boolean (.int s0) = .int s0 then some (some (.int s0), h) else none := by
  exact q_ret dX9_isHeavy_26 rfl
theorem e_X9_takesNumbers_0 (v0 : Nat) (hw_v0 : 1000 ≤ v0 ∧ v0 < 1042) (h : mx_H)  : mx_D (1, mm_X9_takesNumbers, 0, [.ref v0], []) h = if ((mx_wsh.getD (v0 - 1000) (0, 0)).1) = 7 then mx_D (1, mm_X9_takesNumbers, 18, [.ref v0], []) h else (if ((mx_wsh.getD (v0 - 1000) (0, 0)).1) = 8 then mx_D (1, mm_X9_takesNumbers, 18, [.ref v0], []) h else (mx_D (1, mm_X9_takesNumbers, 23, [.ref v0], [.int 0]) h)) := by
  refine Eq.trans (q_aload_n dX9_takesNumbers_0 rfl rfl) ?_
  refine Eq.trans (q_getw dX9_takesNumbers_1 mx_fld_9_155 hw_v0 rfl) ?_
  refine Eq.trans (q_bipush (x := 7) dX9_takesNumbers_4 rfl) ?_
  refine Eq.trans (q_icmp_eq 18 dX9_takesNumbers_6 rfl) (q_ite2 ?_ ?_)
  · rfl
  · refine Eq.trans (q_aload_n dX9_takesNumbers_9 rfl rfl) ?_
    refine Eq.trans (q_getw dX9_takesNumbers_10 mx_fld_9_155 hw_v0 rfl) ?_
    refine Eq.trans (q_bipush (x := 8) dX9_takesNumbers_13 rfl) ?_
    refine Eq.trans (q_icmp_ne 22 dX9_takesNumbers_15 rfl) (q_ite2 ?_ ?_)
    · rfl
    · refine Eq.trans (q_iconst (x := 0) dX9_takesNumbers_22 rfl) ?_
      rfl
theorem c_X9_takesNumbers (v0 : Nat) (hw_v0 : 1000 ≤ v0 ∧ v0 < 1042) (h : mx_H) : mx_C mm_X9_takesNumbers [.ref v0] h = mx_D (1, mm_X9_takesNumbers, 0, [.ref v0], []) h := rfl
theorem e_X9_takesNumbers_18 (v0 : Nat) (hw_v0 : 1000 ≤ v0 ∧ v0 < 1042) (h : mx_H)  : mx_D (1, mm_X9_takesNumbers, 18, [.ref v0], []) h = mx_D (1, mm_X9_takesNumbers, 23, [.ref v0], [.int 1]) h := by
  refine Eq.trans (q_iconst (x := 1) dX9_takesNumbers_18 rfl) ?_
  refine Eq.trans (q_goto 23 dX9_takesNumbers_19 rfl) ?_
  rfl
theorem e_X9_takesNumbers_23 (v0 : Nat) (hw_v0 : 1000 ≤ v0 ∧ v0 < 1042) (s0 : Int32) (h : mx_H)  : mx_D (1, mm_X9_takesNumbers, 23, [.ref v0], [.int s0]) h = if narrow .boolean (.int s0) = .int s0 then some (some (.int s0), h) else none := by
  exact q_ret dX9_takesNumbers_23 rfl
