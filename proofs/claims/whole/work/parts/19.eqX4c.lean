theorem c_X4_fits (v1 : Option Nat) (v2 : Int32) (v3 : Int32) (v4 : Int32) (h : mx_H) : mx_C mm_X4_fits [.ref 18, mx_rf v1, .int v2, .int v3, .int v4] h = mx_D (2, mm_X4_fits, 0, [.ref 18, mx_rf v1, .int v2, .int v3, .int v4, mx_junk, mx_junk], []) h := (by cases v1 <;> exact rfl)
theorem e_X4_fits_15 (v1 : Option Nat) (v2 : Int32) (v3 : Int32) (v4 : Int32) (s0 : Int32) (h : mx_H)  : mx_D (2, mm_X4_fits, 15, [.ref 18, mx_rf v1, .int v2, .int v3, .int v4, mx_junk, mx_junk], [.int s0]) h = if mx_in v3 27 = true then (mx_C mm_X7_sortOf [.ref 6, .int (h.1 19 v3.toNatClampNeg)] h).bind (fun o => mx_D (2, mm_X4_fits, 30, [.ref 18, mx_rf v1, .int v2, .int v3, .int v4, .int s0, mx_junk], o.1.toList ++ []) o.2) else none := by
  refine Eq.trans (q_istore (L' := [.ref 18, mx_rf v1, .int v2, .int v3, .int v4, .int s0, mx_junk]) dX4_fits_15 (Nat.le_of_ble_eq_true rfl) rfl) ?_
  refine Eq.trans (q_aload_n dX4_fits_17 rfl rfl) ?_
  refine Eq.trans (q_getf dX4_fits_18 mx_fld_4_25 (gf_18_1 _)) ?_
  refine Eq.trans (q_aload_n dX4_fits_21 rfl rfl) ?_
  refine Eq.trans (q_getf dX4_fits_22 mx_fld_4_9 (gf_18_8 _)) ?_
  refine Eq.trans (q_iload_n dX4_fits_25 rfl) ?_
  refine Eq.trans (q_ld (w := 0) (by decide) dX4_fits_26 (al_19 _ _)) (q_ite ?_)
  exact q_call0 (as := [.int (h.1 19 v3.toNatClampNeg)]) (rest := []) dX4_fits_27 mx_inv_4_93 rfl rfl rfl ⟨Nat.le_of_ble_eq_true rfl, Nat.le_of_ble_eq_true rfl, (Nat.le_of_ble_eq_true rfl)⟩
theorem e_X4_fits_30 (v1 : Nat) (hw_v1 : 1000 ≤ v1 ∧ v1 < 1042) (v2 : Int32) (v3 : Int32) (v4 : Int32) (v5 : Int32) (s0 : Int32) (h : mx_H)  : mx_D (2, mm_X4_fits, 30, [.ref 18, .ref v1, .int v2, .int v3, .int v4, .int v5, mx_junk], [.int s0]) h = mx_D (2, mm_X4_fits, 36, [.ref 18, .ref v1, .int v2, .int v3, .int v4, .int v5, .int s0], [.int ((mx_wsh.getD (v1 - 1000) (0, 0)).1)]) h := by
  refine Eq.trans (q_istore (L' := [.ref 18, .ref v1, .int v2, .int v3, .int v4, .int v5, .int s0]) dX4_fits_30 (Nat.le_of_ble_eq_true rfl) rfl) ?_
  refine Eq.trans (q_aload_n dX4_fits_32 rfl rfl) ?_
  refine Eq.trans (q_getw dX4_fits_33 mx_fld_4_199 hw_v1 rfl) ?_
  rfl
theorem e_X4_fits_36_1 (v1 : Option Nat) (v2 : Int32) (v3 : Int32) (v4 : Int32) (v5 : Int32) (v6 : Int32) (h : mx_H) : mx_D (2, mm_X4_fits, 36, [.ref 18, mx_rf v1, .int v2, .int v3, .int v4, .int v5, .int v6], [.int 1]) h = mx_D (2, mm_X4_fits, 88, [.ref 18, mx_rf v1, .int v2, .int v3, .int v4, .int v5, .int v6], []) h := q_tsw 88 dX4_fits_36 rfl rfl
theorem e_X4_fits_36_2 (v1 : Option Nat) (v2 : Int32) (v3 : Int32) (v4 : Int32) (v5 : Int32) (v6 : Int32) (h : mx_H) : mx_D (2, mm_X4_fits, 36, [.ref 18, mx_rf v1, .int v2, .int v3, .int v4, .int v5, .int v6], [.int 2]) h = mx_D (2, mm_X4_fits, 99, [.ref 18, mx_rf v1, .int v2, .int v3, .int v4, .int v5, .int v6], []) h := q_tsw 99 dX4_fits_36 rfl rfl
theorem e_X4_fits_36_3 (v1 : Option Nat) (v2 : Int32) (v3 : Int32) (v4 : Int32) (v5 : Int32) (v6 : Int32) (h : mx_H) : mx_D (2, mm_X4_fits, 36, [.ref 18, mx_rf v1, .int v2, .int v3, .int v4, .int v5, .int v6], [.int 3]) h = mx_D (2, mm_X4_fits, 112, [.ref 18, mx_rf v1, .int v2, .int v3, .int v4, .int v5, .int v6], []) h := q_tsw 112 dX4_fits_36 rfl rfl
theorem e_X4_fits_36_4 (v1 : Option Nat) (v2 : Int32) (v3 : Int32) (v4 : Int32) (v5 : Int32) (v6 : Int32) (h : mx_H) : mx_D (2, mm_X4_fits, 36, [.ref 18, mx_rf v1, .int v2, .int v3, .int v4, .int v5, .int v6], [.int 4]) h = mx_D (2, mm_X4_fits, 155, [.ref 18, mx_rf v1, .int v2, .int v3, .int v4, .int v5, .int v6], []) h := q_tsw 155 dX4_fits_36 rfl rfl
theorem e_X4_fits_36_5 (v1 : Option Nat) (v2 : Int32) (v3 : Int32) (v4 : Int32) (v5 : Int32) (v6 : Int32) (h : mx_H) : mx_D (2, mm_X4_fits, 36, [.ref 18, mx_rf v1, .int v2, .int v3, .int v4, .int v5, .int v6], [.int 5]) h = mx_D (2, mm_X4_fits, 155, [.ref 18, mx_rf v1, .int v2, .int v3, .int v4, .int v5, .int v6], []) h := q_tsw 155 dX4_fits_36 rfl rfl
theorem e_X4_fits_36_6 (v1 : Option Nat) (v2 : Int32) (v3 : Int32) (v4 : Int32) (v5 : Int32) (v6 : Int32) (h : mx_H) : mx_D (2, mm_X4_fits, 36, [.ref 18, mx_rf v1, .int v2, .int v3, .int v4, .int v5, .int v6], [.int 6]) h = mx_D (2, mm_X4_fits, 176, [.ref 18, mx_rf v1, .int v2, .int v3, .int v4, .int v5, .int v6], []) h := q_tsw 176 dX4_fits_36 rfl rfl
theorem e_X4_fits_36_7 (v1 : Option Nat) (v2 : Int32) (v3 : Int32) (v4 : Int32) (v5 : Int32) (v6 : Int32) (h : mx_H) : mx_D (2, mm_X4_fits, 36, [.ref 18, mx_rf v1, .int v2, .int v3, .int v4, .int v5, .int v6], [.int 7]) h = mx_D (2, mm_X4_fits, 203, [.ref 18, mx_rf v1, .int v2, .int v3, .int v4, .int v5, .int v6], []) h := q_tsw 203 dX4_fits_36 rfl rfl
theorem e_X4_fits_36_8 (v1 : Option Nat) (v2 : Int32) (v3 : Int32) (v4 : Int32) (v5 : Int32) (v6 : Int32) (h : mx_H) : mx_D (2, mm_X4_fits, 36, [.ref 18, mx_rf v1, .int v2, .int v3, .int v4, .int v5, .int v6], [.int 8]) h = mx_D (2, mm_X4_fits, 224, [.ref 18, mx_rf v1, .int v2, .int v3, .int v4, .int v5, .int v6], []) h := q_tsw 224 dX4_fits_36 rfl rfl
theorem e_X4_fits_36_9 (v1 : Option Nat) (v2 : Int32) (v3 : Int32) (v4 : Int32) (v5 : Int32) (v6 : Int32) (h : mx_H) : mx_D (2, mm_X4_fits, 36, [.ref 18, mx_rf v1, .int v2, .int v3, .int v4, .int v5, .int v6], [.int 9]) h = mx_D (2, mm_X4_fits, 247, [.ref 18, mx_rf v1, .int v2, .int v3, .int v4, .int v5, .int v6], []) h := q_tsw 247 dX4_fits_36 rfl rfl
theorem e_X4_fits_36_d (v1 : Option Nat) (v2 : Int32) (v3 : Int32) (v4 : Int32) (v5 : Int32) (v6 : Int32) (x : Int32) (hx : x.toInt < 1 ∨ 9 < x.toInt) (h : mx_H) : mx_D (2, mm_X4_fits, 36, [.ref 18, mx_rf v1, .int v2, .int v3, .int v4, .int v5, .int v6], [.int x]) h = mx_D (2, mm_X4_fits, 283, [.ref 18, mx_rf v1, .int v2, .int v3, .int v4, .int v5, .int v6], []) h := q_tsw 283 dX4_fits_36 (if_pos hx) rfl
theorem e_X4_fits_88 (v1 : Option Nat) (v2 : Int32) (v3 : Int32) (v4 : Int32) (v5 : Int32) (v6 : Int32) (h : mx_H)  : mx_D (2, mm_X4_fits, 88, [.ref 18, mx_rf v1, .int v2, .int v3, .int v4, .int v5, .int v6], []) h = if v5 = 0 then mx_D (2, mm_X4_fits, 98, [.ref 18, mx_rf v1, .int v2, .int v3, .int v4, .int v5, .int v6], [.int 1]) h else (mx_D (2, mm_X4_fits, 98, [.ref 18, mx_rf v1, .int v2, .int v3, .int v4, .int v5, .int v6], [.int 0]) h) := by
  refine Eq.trans (q_iload dX4_fits_88 rfl) ?_
  refine Eq.trans (q_if_ne 97 dX4_fits_90 rfl) (q_ite2 ?_ ?_)
  · refine Eq.trans (q_iconst (x := 1) dX4_fits_93 rfl) ?_
    refine Eq.trans (q_goto 98 dX4_fits_94 rfl) ?_
    rfl
  · refine Eq.trans (q_iconst (x := 0) dX4_fits_97 rfl) ?_
    rfl
theorem e_X4_fits_98 (v1 : Option Nat) (v2 : Int32) (v3 : Int32) (v4 : Int32) (v5 : Int32) (v6 : Int32) (s0 : Int32) (h : mx_H)  : mx_D (2, mm_X4_fits, 98, [.ref 18, mx_rf v1, .int v2, .int v3, .int v4, .int v5, .int v6], [.int s0]) h = if narrow .boolean (.int s0) = .int s0 then some (some (.int s0), h) else none := by
  exact q_ret dX4_fits_98 rfl
theorem e_X4_fits_99 (v1 : Option Nat) (v2 : Int32) (v3 : Int32) (v4 : Int32) (v5 : Int32) (v6 : Int32) (h : mx_H)  : mx_D (2, mm_X4_fits, 99, [.ref 18, mx_rf v1, .int v2, .int v3, .int v4, .int v5, .int v6], []) h = if v5 = v6 then mx_D (2, mm_X4_fits, 111, [.ref 18, mx_rf v1, .int v2, .int v3, .int v4, .int v5, .int v6], [.int 1]) h else (mx_D (2, mm_X4_fits, 111, [.ref 18, mx_rf v1, .int v2, .int v3, .int v4, .int v5, .int v6], [.int 0]) h) := by
  refine Eq.trans (q_iload dX4_fits_99 rfl) ?_
  refine Eq.trans (q_iload dX4_fits_101 rfl) ?_
  refine Eq.trans (q_icmp_ne 110 dX4_fits_103 rfl) (q_ite2 ?_ ?_)
  · refine Eq.trans (q_iconst (x := 1) dX4_fits_106 rfl) ?_
    refine Eq.trans (q_goto 111 dX4_fits_107 rfl) ?_
    rfl
  · refine Eq.trans (q_iconst (x := 0) dX4_fits_110 rfl) ?_
    rfl
theorem e_X4_fits_111 (v1 : Option Nat) (v2 : Int32) (v3 : Int32) (v4 : Int32) (v5 : Int32) (v6 : Int32) (s0 : Int32) (h : mx_H)  : mx_D (2, mm_X4_fits, 111, [.ref 18, mx_rf v1, .int v2, .int v3, .int v4, .int v5, .int v6], [.int s0]) h = if narrow .boolean (.int s0) = .int s0 then some (some (.int s0), h) else none := by
  exact q_ret dX4_fits_111 rfl
theorem e_X4_fits_112 (v1 : Option Nat) (v2 : Int32) (v3 : Int32) (v4 : Int32) (v5 : Int32) (v6 : Int32) (h : mx_H)  : mx_D (2, mm_X4_fits, 112, [.ref 18, mx_rf v1, .int v2, .int v3, .int v4, .int v5, .int v6], []) h = if v2 = 0 then if v5 = 0 then mx_D (2, mm_X4_fits, 154, [.ref 18, mx_rf v1, .int v2, .int v3, .int v4, .int v5, .int v6], [.int 1]) h else (mx_D (2, mm_X4_fits, 154, [.ref 18, mx_rf v1, .int v2, .int v3, .int v4, .int v5, .int v6], [.int 0]) h) else (if mx_in (v3 + 1) 27 = true then (mx_C mm_X7_sortOf [.ref 6, .int (h.1 19 ((v3 + 1).toNatClampNeg))] h).bind (fun o => mx_D (2, mm_X4_fits, 146, [.ref 18, mx_rf v1, .int v2, .int v3, .int v4, .int v5, .int v6], o.1.toList ++ [.int v5]) o.2) else none) := by
  refine Eq.trans (q_iload_n dX4_fits_112 rfl) ?_
  refine Eq.trans (q_if_ne 129 dX4_fits_113 rfl) (q_ite2 ?_ ?_)
  · refine Eq.trans (q_iload dX4_fits_116 rfl) ?_
    refine Eq.trans (q_if_ne 125 dX4_fits_118 rfl) (q_ite2 ?_ ?_)
    · refine Eq.trans (q_iconst (x := 1) dX4_fits_121 rfl) ?_
      refine Eq.trans (q_goto 154 dX4_fits_122 rfl) ?_
      rfl
    · refine Eq.trans (q_iconst (x := 0) dX4_fits_125 rfl) ?_
      refine Eq.trans (q_goto 154 dX4_fits_126 rfl) ?_
      rfl
  · refine Eq.trans (q_iload dX4_fits_129 rfl) ?_
    refine Eq.trans (q_aload_n dX4_fits_131 rfl rfl) ?_
    refine Eq.trans (q_getf dX4_fits_132 mx_fld_4_25 (gf_18_1 _)) ?_
    refine Eq.trans (q_aload_n dX4_fits_135 rfl rfl) ?_
    refine Eq.trans (q_getf dX4_fits_136 mx_fld_4_9 (gf_18_8 _)) ?_
    refine Eq.trans (q_iload_n dX4_fits_139 rfl) ?_
    refine Eq.trans (q_iconst (x := 1) dX4_fits_140 rfl) ?_
    refine Eq.trans (q_iadd dX4_fits_141) ?_
    refine Eq.trans (q_ld (w := 0) (by decide) dX4_fits_142 (al_19 _ _)) (q_ite ?_)
    exact q_call0 (as := [.int (h.1 19 ((v3 + 1).toNatClampNeg))]) (rest := [.int v5]) dX4_fits_143 mx_inv_4_93 rfl rfl rfl ⟨Nat.le_of_ble_eq_true rfl, Nat.le_of_ble_eq_true rfl, (Nat.le_of_ble_eq_true rfl)⟩
theorem e_X4_fits_146 (v1 : Option Nat) (v2 : Int32) (v3 : Int32) (v4 : Int32) (v5 : Int32) (v6 : Int32) (s0 : Int32) (s1 : Int32) (h : mx_H)  : mx_D (2, mm_X4_fits, 146, [.ref 18, mx_rf v1, .int v2, .int v3, .int v4, .int v5, .int v6], [.int s1, .int s0]) h = if s0 = s1 then mx_D (2, mm_X4_fits, 154, [.ref 18, mx_rf v1, .int v2, .int v3, .int v4, .int v5, .int v6], [.int 1]) h else (mx_D (2, mm_X4_fits, 154, [.ref 18, mx_rf v1, .int v2, .int v3, .int v4, .int v5, .int v6], [.int 0]) h) := by
  refine Eq.trans (q_icmp_ne 153 dX4_fits_146 rfl) (q_ite2 ?_ ?_)
  · refine Eq.trans (q_iconst (x := 1) dX4_fits_149 rfl) ?_
    refine Eq.trans (q_goto 154 dX4_fits_150 rfl) ?_
    rfl
  · refine Eq.trans (q_iconst (x := 0) dX4_fits_153 rfl) ?_
    rfl
theorem e_X4_fits_154 (v1 : Option Nat) (v2 : Int32) (v3 : Int32) (v4 : Int32) (v5 : Int32) (v6 : Int32) (s0 : Int32) (h : mx_H)  : mx_D (2, mm_X4_fits, 154, [.ref 18, mx_rf v1, .int v2, .int v3, .int v4, .int v5, .int v6], [.int s0]) h = if narrow .boolean (.int s0) = .int s0 then some (some (.int s0), h) else none := by
  exact q_ret dX4_fits_154 rfl
theorem e_X4_fits_155 (v1 : Option Nat) (v2 : Int32) (v3 : Int32) (v4 : Int32) (v5 : Int32) (v6 : Int32) (h : mx_H)  : mx_D (2, mm_X4_fits, 155, [.ref 18, mx_rf v1, .int v2, .int v3, .int v4, .int v5, .int v6], []) h = (mx_C mm_X10_isWord [.int v5] h).bind (fun o => mx_D (2, mm_X4_fits, 160, [.ref 18, mx_rf v1, .int v2, .int v3, .int v4, .int v5, .int v6], o.1.toList ++ []) o.2) := by
  refine Eq.trans (q_iload dX4_fits_155 rfl) ?_
  exact q_call1 (as := [.int v5]) (rest := []) dX4_fits_157 mx_inv_4_202 rfl rfl ⟨Nat.le_of_ble_eq_true rfl, Nat.le_of_ble_eq_true rfl, (Nat.le_of_ble_eq_true rfl)⟩
theorem e_X4_fits_160 (v1 : Option Nat) (v2 : Int32) (v3 : Int32) (v4 : Int32) (v5 : Int32) (v6 : Int32) (s0 : Int32) (h : mx_H)  : mx_D (2, mm_X4_fits, 160, [.ref 18, mx_rf v1, .int v2, .int v3, .int v4, .int v5, .int v6], [.int s0]) h = if s0 = 0 then mx_D (2, mm_X4_fits, 174, [.ref 18, mx_rf v1, .int v2, .int v3, .int v4, .int v5, .int v6], []) h else (if v5 = v6 then mx_D (2, mm_X4_fits, 175, [.ref 18, mx_rf v1, .int v2, .int v3, .int v4, .int v5, .int v6], [.int 1]) h else (mx_D (2, mm_X4_fits, 174, [.ref 18, mx_rf v1, .int v2, .int v3, .int v4, .int v5, .int v6], []) h)) := by
  refine Eq.trans (q_if_eq 174 dX4_fits_160 rfl) (q_ite2 ?_ ?_)
  · rfl
  · refine Eq.trans (q_iload dX4_fits_163 rfl) ?_
    refine Eq.trans (q_iload dX4_fits_165 rfl) ?_
    refine Eq.trans (q_icmp_ne 174 dX4_fits_167 rfl) (q_ite2 ?_ ?_)
    · refine Eq.trans (q_iconst (x := 1) dX4_fits_170 rfl) ?_
      refine Eq.trans (q_goto 175 dX4_fits_171 rfl) ?_
      rfl
    · rfl
theorem e_X4_fits_174 (v1 : Option Nat) (v2 : Int32) (v3 : Int32) (v4 : Int32) (v5 : Int32) (v6 : Int32) (h : mx_H)  : mx_D (2, mm_X4_fits, 174, [.ref 18, mx_rf v1, .int v2, .int v3, .int v4, .int v5, .int v6], []) h = mx_D (2, mm_X4_fits, 175, [.ref 18, mx_rf v1, .int v2, .int v3, .int v4, .int v5, .int v6], [.int 0]) h := by
  refine Eq.trans (q_iconst (x := 0) dX4_fits_174 rfl) ?_
  rfl
theorem e_X4_fits_175 (v1 : Option Nat) (v2 : Int32) (v3 : Int32) (v4 : Int32) (v5 : Int32) (v6 : Int32) (s0 : Int32) (h : mx_H)  : mx_D (2, mm_X4_fits, 175, [.ref 18, mx_rf v1, .int v2, .int v3, .int v4, .int v5, .int v6], [.int s0]) h = if narrow .boolean (.int s0) = .int s0 then some (some (.int s0), h) else none := by
  exact q_ret dX4_fits_175 rfl
theorem e_X4_fits_176 (v1 : Option Nat) (v2 : Int32) (v3 : Int32) (v4 : Int32) (v5 : Int32) (v6 : Int32) (h : mx_H)  : mx_D (2, mm_X4_fits, 176, [.ref 18, mx_rf v1, .int v2, .int v3, .int v4, .int v5, .int v6], []) h = (mx_C mm_X10_isWord [.int v5] h).bind (fun o => mx_D (2, mm_X4_fits, 181, [.ref 18, mx_rf v1, .int v2, .int v3, .int v4, .int v5, .int v6], o.1.toList ++ []) o.2) := by
  refine Eq.trans (q_iload dX4_fits_176 rfl) ?_
  exact q_call1 (as := [.int v5]) (rest := []) dX4_fits_178 mx_inv_4_202 rfl rfl ⟨Nat.le_of_ble_eq_true rfl, Nat.le_of_ble_eq_true rfl, (Nat.le_of_ble_eq_true rfl)⟩
theorem e_X4_fits_181 (v1 : Option Nat) (v2 : Int32) (v3 : Int32) (v4 : Int32) (v5 : Int32) (v6 : Int32) (s0 : Int32) (h : mx_H)  : mx_D (2, mm_X4_fits, 181, [.ref 18, mx_rf v1, .int v2, .int v3, .int v4, .int v5, .int v6], [.int s0]) h = if s0 = 0 then mx_D (2, mm_X4_fits, 201, [.ref 18, mx_rf v1, .int v2, .int v3, .int v4, .int v5, .int v6], []) h else (if v2 = 0 then mx_D (2, mm_X4_fits, 197, [.ref 18, mx_rf v1, .int v2, .int v3, .int v4, .int v5, .int v6], []) h else (if 4 < (v6 + v5) then mx_D (2, mm_X4_fits, 201, [.ref 18, mx_rf v1, .int v2, .int v3, .int v4, .int v5, .int v6], []) h else (mx_D (2, mm_X4_fits, 197, [.ref 18, mx_rf v1, .int v2, .int v3, .int v4, .int v5, .int v6], []) h))) := by
  refine Eq.trans (q_if_eq 201 dX4_fits_181 rfl) (q_ite2 ?_ ?_)
  · rfl
  · refine Eq.trans (q_iload_n dX4_fits_184 rfl) ?_
    refine Eq.trans (q_if_eq 197 dX4_fits_185 rfl) (q_ite2 ?_ ?_)
    · rfl
    · refine Eq.trans (q_iload dX4_fits_188 rfl) ?_
      refine Eq.trans (q_iload dX4_fits_190 rfl) ?_
      refine Eq.trans (q_iadd dX4_fits_192) ?_
      refine Eq.trans (q_iconst (x := 4) dX4_fits_193 rfl) ?_
      refine Eq.trans (q_icmp_gt 201 dX4_fits_194 rfl) (q_ite2 ?_ ?_)
      · rfl
      · rfl
theorem e_X4_fits_197 (v1 : Option Nat) (v2 : Int32) (v3 : Int32) (v4 : Int32) (v5 : Int32) (v6 : Int32) (h : mx_H)  : mx_D (2, mm_X4_fits, 197, [.ref 18, mx_rf v1, .int v2, .int v3, .int v4, .int v5, .int v6], []) h = mx_D (2, mm_X4_fits, 202, [.ref 18, mx_rf v1, .int v2, .int v3, .int v4, .int v5, .int v6], [.int 1]) h := by
  refine Eq.trans (q_iconst (x := 1) dX4_fits_197 rfl) ?_
  refine Eq.trans (q_goto 202 dX4_fits_198 rfl) ?_
  rfl
theorem e_X4_fits_201 (v1 : Option Nat) (v2 : Int32) (v3 : Int32) (v4 : Int32) (v5 : Int32) (v6 : Int32) (h : mx_H)  : mx_D (2, mm_X4_fits, 201, [.ref 18, mx_rf v1, .int v2, .int v3, .int v4, .int v5, .int v6], []) h = mx_D (2, mm_X4_fits, 202, [.ref 18, mx_rf v1, .int v2, .int v3, .int v4, .int v5, .int v6], [.int 0]) h := by
  refine Eq.trans (q_iconst (x := 0) dX4_fits_201 rfl) ?_
  rfl
theorem e_X4_fits_202 (v1 : Option Nat) (v2 : Int32) (v3 : Int32) (v4 : Int32) (v5 : Int32) (v6 : Int32) (s0 : Int32) (h : mx_H)  : mx_D (2, mm_X4_fits, 202, [.ref 18, mx_rf v1, .int v2, .int v3, .int v4, .int v5, .int v6], [.int s0]) h = if narrow .boolean (.int s0) = .int s0 then some (some (.int s0), h) else none := by
  exact q_ret dX4_fits_202 rfl
theorem e_X4_fits_203 (v1 : Option Nat) (v2 : Int32) (v3 : Int32) (v4 : Int32) (v5 : Int32) (v6 : Int32) (h : mx_H)  : mx_D (2, mm_X4_fits, 203, [.ref 18, mx_rf v1, .int v2, .int v3, .int v4, .int v5, .int v6], []) h = (mx_C mm_X10_isWord [.int v5] h).bind (fun o => mx_D (2, mm_X4_fits, 208, [.ref 18, mx_rf v1, .int v2, .int v3, .int v4, .int v5, .int v6], o.1.toList ++ []) o.2) := by
  refine Eq.trans (q_iload dX4_fits_203 rfl) ?_
  exact q_call1 (as := [.int v5]) (rest := []) dX4_fits_205 mx_inv_4_202 rfl rfl ⟨Nat.le_of_ble_eq_true rfl, Nat.le_of_ble_eq_true rfl, (Nat.le_of_ble_eq_true rfl)⟩
theorem e_X4_fits_208 (v1 : Option Nat) (v2 : Int32) (v3 : Int32) (v4 : Int32) (v5 : Int32) (v6 : Int32) (s0 : Int32) (h : mx_H)  : mx_D (2, mm_X4_fits, 208, [.ref 18, mx_rf v1, .int v2, .int v3, .int v4, .int v5, .int v6], [.int s0]) h = if s0 = 0 then mx_D (2, mm_X4_fits, 222, [.ref 18, mx_rf v1, .int v2, .int v3, .int v4, .int v5, .int v6], []) h else (if v5 ≤ v4 then mx_D (2, mm_X4_fits, 222, [.ref 18, mx_rf v1, .int v2, .int v3, .int v4, .int v5, .int v6], []) h else (mx_D (2, mm_X4_fits, 223, [.ref 18, mx_rf v1, .int v2, .int v3, .int v4, .int v5, .int v6], [.int 1]) h)) := by
  refine Eq.trans (q_if_eq 222 dX4_fits_208 rfl) (q_ite2 ?_ ?_)
  · rfl
  · refine Eq.trans (q_iload dX4_fits_211 rfl) ?_
    refine Eq.trans (q_iload dX4_fits_213 rfl) ?_
    refine Eq.trans (q_icmp_le 222 dX4_fits_215 rfl) (q_ite2 ?_ ?_)
    · rfl
    · refine Eq.trans (q_iconst (x := 1) dX4_fits_218 rfl) ?_
      refine Eq.trans (q_goto 223 dX4_fits_219 rfl) ?_
      rfl
theorem e_X4_fits_222 (v1 : Option Nat) (v2 : Int32) (v3 : Int32) (v4 : Int32) (v5 : Int32) (v6 : Int32) (h : mx_H)  : mx_D (2, mm_X4_fits, 222, [.ref 18, mx_rf v1, .int v2, .int v3, .int v4, .int v5, .int v6], []) h = mx_D (2, mm_X4_fits, 223, [.ref 18, mx_rf v1, .int v2, .int v3, .int v4, .int v5, .int v6], [.int 0]) h := by
  refine Eq.trans (q_iconst (x := 0) dX4_fits_222 rfl) ?_
  rfl
theorem e_X4_fits_223 (v1 : Option Nat) (v2 : Int32) (v3 : Int32) (v4 : Int32) (v5 : Int32) (v6 : Int32) (s0 : Int32) (h : mx_H)  : mx_D (2, mm_X4_fits, 223, [.ref 18, mx_rf v1, .int v2, .int v3, .int v4, .int v5, .int v6], [.int s0]) h = if narrow .boolean (.int s0) = .int s0 then some (some (.int s0), h) else none := by
  exact q_ret dX4_fits_223 rfl
theorem e_X4_fits_224 (v1 : Option Nat) (v2 : Int32) (v3 : Int32) (v4 : Int32) (v5 : Int32) (v6 : Int32) (h : mx_H)  : mx_D (2, mm_X4_fits, 224, [.ref 18, mx_rf v1, .int v2, .int v3, .int v4, .int v5, .int v6], []) h = (mx_C mm_X10_isWord [.int v5] h).bind (fun o => mx_D (2, mm_X4_fits, 229, [.ref 18, mx_rf v1, .int v2, .int v3, .int v4, .int v5, .int v6], o.1.toList ++ []) o.2) := by
  refine Eq.trans (q_iload dX4_fits_224 rfl) ?_
  exact q_call1 (as := [.int v5]) (rest := []) dX4_fits_226 mx_inv_4_202 rfl rfl ⟨Nat.le_of_ble_eq_true rfl, Nat.le_of_ble_eq_true rfl, (Nat.le_of_ble_eq_true rfl)⟩
theorem e_X4_fits_229 (v1 : Option Nat) (v2 : Int32) (v3 : Int32) (v4 : Int32) (v5 : Int32) (v6 : Int32) (s0 : Int32) (h : mx_H)  : mx_D (2, mm_X4_fits, 229, [.ref 18, mx_rf v1, .int v2, .int v3, .int v4, .int v5, .int v6], [.int s0]) h = if s0 = 0 then mx_D (2, mm_X4_fits, 245, [.ref 18, mx_rf v1, .int v2, .int v3, .int v4, .int v5, .int v6], []) h else (if 4 < (v5 + v4) then mx_D (2, mm_X4_fits, 245, [.ref 18, mx_rf v1, .int v2, .int v3, .int v4, .int v5, .int v6], []) h else (mx_D (2, mm_X4_fits, 246, [.ref 18, mx_rf v1, .int v2, .int v3, .int v4, .int v5, .int v6], [.int 1]) h)) := by
  refine Eq.trans (q_if_eq 245 dX4_fits_229 rfl) (q_ite2 ?_ ?_)
  · rfl
  · refine Eq.trans (q_iload dX4_fits_232 rfl) ?_
    refine Eq.trans (q_iload dX4_fits_234 rfl) ?_
    refine Eq.trans (q_iadd dX4_fits_236) ?_
    refine Eq.trans (q_iconst (x := 4) dX4_fits_237 rfl) ?_
    refine Eq.trans (q_icmp_gt 245 dX4_fits_238 rfl) (q_ite2 ?_ ?_)
    · rfl
    · refine Eq.trans (q_iconst (x := 1) dX4_fits_241 rfl) ?_
      refine Eq.trans (q_goto 246 dX4_fits_242 rfl) ?_
      rfl
theorem e_X4_fits_245 (v1 : Option Nat) (v2 : Int32) (v3 : Int32) (v4 : Int32) (v5 : Int32) (v6 : Int32) (h : mx_H)  : mx_D (2, mm_X4_fits, 245, [.ref 18, mx_rf v1, .int v2, .int v3, .int v4, .int v5, .int v6], []) h = mx_D (2, mm_X4_fits, 246, [.ref 18, mx_rf v1, .int v2, .int v3, .int v4, .int v5, .int v6], [.int 0]) h := by
  refine Eq.trans (q_iconst (x := 0) dX4_fits_245 rfl) ?_
  rfl
theorem e_X4_fits_246 (v1 : Option Nat) (v2 : Int32) (v3 : Int32) (v4 : Int32) (v5 : Int32) (v6 : Int32) (s0 : Int32) (h : mx_H)  : mx_D (2, mm_X4_fits, 246, [.ref 18, mx_rf v1, .int v2, .int v3, .int v4, .int v5, .int v6], [.int s0]) h = if narrow .boolean (.int s0) = .int s0 then some (some (.int s0), h) else none := by
  exact q_ret dX4_fits_246 rfl
theorem e_X4_fits_247 (v1 : Option Nat) (v2 : Int32) (v3 : Int32) (v4 : Int32) (v5 : Int32) (v6 : Int32) (h : mx_H)  : mx_D (2, mm_X4_fits, 247, [.ref 18, mx_rf v1, .int v2, .int v3, .int v4, .int v5, .int v6], []) h = if v2 = 0 then (mx_C mm_X10_isArray [.int v5] h).bind (fun o => mx_D (2, mm_X4_fits, 256, [.ref 18, mx_rf v1, .int v2, .int v3, .int v4, .int v5, .int v6], o.1.toList ++ []) o.2) else (if v2 = 1 then mx_D (2, mm_X4_fits, 274, [.ref 18, mx_rf v1, .int v2, .int v3, .int v4, .int v5, .int v6], [.int 1, .int v5]) h else (mx_D (2, mm_X4_fits, 274, [.ref 18, mx_rf v1, .int v2, .int v3, .int v4, .int v5, .int v6], [.int (v6 - 4), .int v5]) h)) := by
  refine Eq.trans (q_iload_n dX4_fits_247 rfl) ?_
  refine Eq.trans (q_if_ne 259 dX4_fits_248 rfl) (q_ite2 ?_ ?_)
  · refine Eq.trans (q_iload dX4_fits_251 rfl) ?_
    exact q_call1 (as := [.int v5]) (rest := []) dX4_fits_253 mx_inv_4_205 rfl rfl ⟨Nat.le_of_ble_eq_true rfl, Nat.le_of_ble_eq_true rfl, (Nat.le_of_ble_eq_true rfl)⟩
  · refine Eq.trans (q_iload dX4_fits_259 rfl) ?_
    refine Eq.trans (q_iload_n dX4_fits_261 rfl) ?_
    refine Eq.trans (q_iconst (x := 1) dX4_fits_262 rfl) ?_
    refine Eq.trans (q_icmp_ne 270 dX4_fits_263 rfl) (q_ite2 ?_ ?_)
    · refine Eq.trans (q_iconst (x := 1) dX4_fits_266 rfl) ?_
      refine Eq.trans (q_goto 274 dX4_fits_267 rfl) ?_
      rfl
    · refine Eq.trans (q_iload dX4_fits_270 rfl) ?_
      refine Eq.trans (q_iconst (x := 4) dX4_fits_272 rfl) ?_
      refine Eq.trans (q_isub dX4_fits_273) ?_
      rfl
theorem e_X4_fits_256 (v1 : Option Nat) (v2 : Int32) (v3 : Int32) (v4 : Int32) (v5 : Int32) (v6 : Int32) (s0 : Int32) (h : mx_H)  : mx_D (2, mm_X4_fits, 256, [.ref 18, mx_rf v1, .int v2, .int v3, .int v4, .int v5, .int v6], [.int s0]) h = mx_D (2, mm_X4_fits, 282, [.ref 18, mx_rf v1, .int v2, .int v3, .int v4, .int v5, .int v6], [.int s0]) h := by
  refine Eq.trans (q_goto 282 dX4_fits_256 rfl) ?_
  rfl
theorem e_X4_fits_274 (v1 : Option Nat) (v2 : Int32) (v3 : Int32) (v4 : Int32) (v5 : Int32) (v6 : Int32) (s0 : Int32) (s1 : Int32) (h : mx_H)  : mx_D (2, mm_X4_fits, 274, [.ref 18, mx_rf v1, .int v2, .int v3, .int v4, .int v5, .int v6], [.int s1, .int s0]) h = if s0 = s1 then mx_D (2, mm_X4_fits, 282, [.ref 18, mx_rf v1, .int v2, .int v3, .int v4, .int v5, .int v6], [.int 1]) h else (mx_D (2, mm_X4_fits, 282, [.ref 18, mx_rf v1, .int v2, .int v3, .int v4, .int v5, .int v6], [.int 0]) h) := by
  refine Eq.trans (q_icmp_ne 281 dX4_fits_274 rfl) (q_ite2 ?_ ?_)
  · refine Eq.trans (q_iconst (x := 1) dX4_fits_277 rfl) ?_
    refine Eq.trans (q_goto 282 dX4_fits_278 rfl) ?_
    rfl
  · refine Eq.trans (q_iconst (x := 0) dX4_fits_281 rfl) ?_
    rfl
theorem e_X4_fits_282 (v1 : Option Nat) (v2 : Int32) (v3 : Int32) (v4 : Int32) (v5 : Int32) (v6 : Int32) (s0 : Int32) (h : mx_H)  : mx_D (2, mm_X4_fits, 282, [.ref 18, mx_rf v1, .int v2, .int v3, .int v4, .int v5, .int v6], [.int s0]) h = if narrow .boolean (.int s0) = .int s0 then some (some (.int s0), h) else none := by
  exact q_ret dX4_fits_282 rfl
theorem e_X4_fits_283 (v1 : Option Nat) (v2 : Int32) (v3 : Int32) (v4 : Int32) (v5 : Int32) (v6 : Int32) (h : mx_H)  : mx_D (2, mm_X4_fits, 283, [.ref 18, mx_rf v1, .int v2, .int v3, .int v4, .int v5, .int v6], []) h = some (some (.int 0), h) := by
  refine Eq.trans (q_iconst (x := 0) dX4_fits_283 rfl) ?_
  exact Eq.trans (q_ret dX4_fits_284 rfl) (if_pos rfl)
theorem e_X4_resultSort_0 (v1 : Option Nat) (v2 : Int32) (v3 : Int32) (v4 : Int32) (h : mx_H)  : mx_D (2, mm_X4_resultSort, 0, [.ref 18, mx_rf v1, .int v2, .int v3, .int v4, mx_junk], []) h = if mx_in v2 27 = true then (mx_C mm_X7_sortOf [.ref 6, .int (h.1 19 v2.toNatClampNeg)] h).bind (fun o => mx_D (2, mm_X4_resultSort, 13, [.ref 18, mx_rf v1, .int v2, .int v3, .int v4, mx_junk], o.1.toList ++ []) o.2) else none := by
  refine Eq.trans (q_aload_n dX4_resultSort_0 rfl rfl) ?_
  refine Eq.trans (q_getf dX4_resultSort_1 mx_fld_4_25 (gf_18_1 _)) ?_
  refine Eq.trans (q_aload_n dX4_resultSort_4 rfl rfl) ?_
  refine Eq.trans (q_getf dX4_resultSort_5 mx_fld_4_9 (gf_18_8 _)) ?_
  refine Eq.trans (q_iload_n dX4_resultSort_8 rfl) ?_
  refine Eq.trans (q_ld (w := 0) (by decide) dX4_resultSort_9 (al_19 _ _)) (q_ite ?_)
  exact q_call0 (as := [.int (h.1 19 v2.toNatClampNeg)]) (rest := []) dX4_resultSort_10 mx_inv_4_93 rfl rfl rfl ⟨Nat.le_of_ble_eq_true rfl, Nat.le_of_ble_eq_true rfl, (Nat.le_of_ble_eq_true rfl)⟩
theorem c_X4_resultSort (v1 : Option Nat) (v2 : Int32) (v3 : Int32) (v4 : Int32) (h : mx_H) : mx_C mm_X4_resultSort [.ref 18, mx_rf v1, .int v2, .int v3, .int v4] h = mx_D (2, mm_X4_resultSort, 0, [.ref 18, mx_rf v1, .int v2, .int v3, .int v4, mx_junk], []) h := (by cases v1 <;> exact rfl)
theorem e_X4_resultSort_13 (v1 : Nat) (hw_v1 : 1000 ≤ v1 ∧ v1 < 1042) (v2 : Int32) (v3 : Int32) (v4 : Int32) (s0 : Int32) (h : mx_H)  : mx_D (2, mm_X4_resultSort, 13, [.ref 18, .ref v1, .int v2, .int v3, .int v4, mx_junk], [.int s0]) h = mx_D (2, mm_X4_resultSort, 19, [.ref 18, .ref v1, .int v2, .int v3, .int v4, .int s0], [.int ((mx_wsh.getD (v1 - 1000) (0, 0)).1)]) h := by
  refine Eq.trans (q_istore (L' := [.ref 18, .ref v1, .int v2, .int v3, .int v4, .int s0]) dX4_resultSort_13 (Nat.le_of_ble_eq_true rfl) rfl) ?_
  refine Eq.trans (q_aload_n dX4_resultSort_15 rfl rfl) ?_
  refine Eq.trans (q_getw dX4_resultSort_16 mx_fld_4_199 hw_v1 rfl) ?_
  rfl
theorem e_X4_resultSort_19_3 (v1 : Option Nat) (v2 : Int32) (v3 : Int32) (v4 : Int32) (v5 : Int32) (h : mx_H) : mx_D (2, mm_X4_resultSort, 19, [.ref 18, mx_rf v1, .int v2, .int v3, .int v4, .int v5], [.int 3]) h = mx_D (2, mm_X4_resultSort, 60, [.ref 18, mx_rf v1, .int v2, .int v3, .int v4, .int v5], []) h := q_tsw 60 dX4_resultSort_19 rfl rfl
theorem e_X4_resultSort_19_4 (v1 : Option Nat) (v2 : Int32) (v3 : Int32) (v4 : Int32) (v5 : Int32) (h : mx_H) : mx_D (2, mm_X4_resultSort, 19, [.ref 18, mx_rf v1, .int v2, .int v3, .int v4, .int v5], [.int 4]) h = mx_D (2, mm_X4_resultSort, 76, [.ref 18, mx_rf v1, .int v2, .int v3, .int v4, .int v5], []) h := q_tsw 76 dX4_resultSort_19 rfl rfl
theorem e_X4_resultSort_19_5 (v1 : Option Nat) (v2 : Int32) (v3 : Int32) (v4 : Int32) (v5 : Int32) (h : mx_H) : mx_D (2, mm_X4_resultSort, 19, [.ref 18, mx_rf v1, .int v2, .int v3, .int v4, .int v5], [.int 5]) h = mx_D (2, mm_X4_resultSort, 127, [.ref 18, mx_rf v1, .int v2, .int v3, .int v4, .int v5], []) h := q_tsw 127 dX4_resultSort_19 rfl rfl
theorem e_X4_resultSort_19_6 (v1 : Option Nat) (v2 : Int32) (v3 : Int32) (v4 : Int32) (v5 : Int32) (h : mx_H) : mx_D (2, mm_X4_resultSort, 19, [.ref 18, mx_rf v1, .int v2, .int v3, .int v4, .int v5], [.int 6]) h = mx_D (2, mm_X4_resultSort, 79, [.ref 18, mx_rf v1, .int v2, .int v3, .int v4, .int v5], []) h := q_tsw 79 dX4_resultSort_19 rfl rfl
theorem e_X4_resultSort_19_7 (v1 : Option Nat) (v2 : Int32) (v3 : Int32) (v4 : Int32) (v5 : Int32) (h : mx_H) : mx_D (2, mm_X4_resultSort, 19, [.ref 18, mx_rf v1, .int v2, .int v3, .int v4, .int v5], [.int 7]) h = mx_D (2, mm_X4_resultSort, 98, [.ref 18, mx_rf v1, .int v2, .int v3, .int v4, .int v5], []) h := q_tsw 98 dX4_resultSort_19 rfl rfl
theorem e_X4_resultSort_19_8 (v1 : Option Nat) (v2 : Int32) (v3 : Int32) (v4 : Int32) (v5 : Int32) (h : mx_H) : mx_D (2, mm_X4_resultSort, 19, [.ref 18, mx_rf v1, .int v2, .int v3, .int v4, .int v5], [.int 8]) h = mx_D (2, mm_X4_resultSort, 105, [.ref 18, mx_rf v1, .int v2, .int v3, .int v4, .int v5], []) h := q_tsw 105 dX4_resultSort_19 rfl rfl
theorem e_X4_resultSort_19_9 (v1 : Option Nat) (v2 : Int32) (v3 : Int32) (v4 : Int32) (v5 : Int32) (h : mx_H) : mx_D (2, mm_X4_resultSort, 19, [.ref 18, mx_rf v1, .int v2, .int v3, .int v4, .int v5], [.int 9]) h = mx_D (2, mm_X4_resultSort, 110, [.ref 18, mx_rf v1, .int v2, .int v3, .int v4, .int v5], []) h := q_tsw 110 dX4_resultSort_19 rfl rfl
theorem e_X4_resultSort_19_d (v1 : Option Nat) (v2 : Int32) (v3 : Int32) (v4 : Int32) (v5 : Int32) (x : Int32) (hx : x.toInt < 3 ∨ 9 < x.toInt) (h : mx_H) : mx_D (2, mm_X4_resultSort, 19, [.ref 18, mx_rf v1, .int v2, .int v3, .int v4, .int v5], [.int x]) h = mx_D (2, mm_X4_resultSort, 127, [.ref 18, mx_rf v1, .int v2, .int v3, .int v4, .int v5], []) h := q_tsw 127 dX4_resultSort_19 (if_pos hx) rfl
theorem e_X4_resultSort_60 (v1 : Option Nat) (v2 : Int32) (v3 : Int32) (v4 : Int32) (v5 : Int32) (h : mx_H)  : mx_D (2, mm_X4_resultSort, 60, [.ref 18, mx_rf v1, .int v2, .int v3, .int v4, .int v5], []) h = if mx_in (v2 + 1) 27 = true then (mx_C mm_X7_sortOf [.ref 6, .int (h.1 19 ((v2 + 1).toNatClampNeg))] h).bind (fun o => mx_D (2, mm_X4_resultSort, 75, [.ref 18, mx_rf v1, .int v2, .int v3, .int v4, .int v5], o.1.toList ++ []) o.2) else none := by
  refine Eq.trans (q_aload_n dX4_resultSort_60 rfl rfl) ?_
  refine Eq.trans (q_getf dX4_resultSort_61 mx_fld_4_25 (gf_18_1 _)) ?_
  refine Eq.trans (q_aload_n dX4_resultSort_64 rfl rfl) ?_
  refine Eq.trans (q_getf dX4_resultSort_65 mx_fld_4_9 (gf_18_8 _)) ?_
  refine Eq.trans (q_iload_n dX4_resultSort_68 rfl) ?_
  refine Eq.trans (q_iconst (x := 1) dX4_resultSort_69 rfl) ?_
  refine Eq.trans (q_iadd dX4_resultSort_70) ?_
  refine Eq.trans (q_ld (w := 0) (by decide) dX4_resultSort_71 (al_19 _ _)) (q_ite ?_)
  exact q_call0 (as := [.int (h.1 19 ((v2 + 1).toNatClampNeg))]) (rest := []) dX4_resultSort_72 mx_inv_4_93 rfl rfl rfl ⟨Nat.le_of_ble_eq_true rfl, Nat.le_of_ble_eq_true rfl, (Nat.le_of_ble_eq_true rfl)⟩
theorem e_X4_resultSort_75 (v1 : Option Nat) (v2 : Int32) (v3 : Int32) (v4 : Int32) (v5 : Int32) (s0 : Int32) (h : mx_H)  : mx_D (2, mm_X4_resultSort, 75, [.ref 18, mx_rf v1, .int v2, .int v3, .int v4, .int v5], [.int s0]) h = some (some (.int s0), h) := by
  exact q_retI dX4_resultSort_75 rfl
theorem e_X4_resultSort_76 (v1 : Option Nat) (v2 : Int32) (v3 : Int32) (v4 : Int32) (v5 : Int32) (h : mx_H)  : mx_D (2, mm_X4_resultSort, 76, [.ref 18, mx_rf v1, .int v2, .int v3, .int v4, .int v5], []) h = some (some (.int v5), h) := by
  refine Eq.trans (q_iload dX4_resultSort_76 rfl) ?_
  exact q_retI dX4_resultSort_78 rfl
theorem e_X4_resultSort_79 (v1 : Option Nat) (v2 : Int32) (v3 : Int32) (v4 : Int32) (v5 : Int32) (h : mx_H)  : mx_D (2, mm_X4_resultSort, 79, [.ref 18, mx_rf v1, .int v2, .int v3, .int v4, .int v5], []) h = if mx_in (v2 + 1) 27 = true then (mx_C mm_X7_sortOf [.ref 6, .int (h.1 19 ((v2 + 1).toNatClampNeg))] h).bind (fun o => mx_D (2, mm_X4_resultSort, 96, [.ref 18, mx_rf v1, .int v2, .int v3, .int v4, .int v5], o.1.toList ++ [.int v5]) o.2) else none := by
  refine Eq.trans (q_iload dX4_resultSort_79 rfl) ?_
  refine Eq.trans (q_aload_n dX4_resultSort_81 rfl rfl) ?_
  refine Eq.trans (q_getf dX4_resultSort_82 mx_fld_4_25 (gf_18_1 _)) ?_
  refine Eq.trans (q_aload_n dX4_resultSort_85 rfl rfl) ?_
  refine Eq.trans (q_getf dX4_resultSort_86 mx_fld_4_9 (gf_18_8 _)) ?_
  refine Eq.trans (q_iload_n dX4_resultSort_89 rfl) ?_
  refine Eq.trans (q_iconst (x := 1) dX4_resultSort_90 rfl) ?_
  refine Eq.trans (q_iadd dX4_resultSort_91) ?_
  refine Eq.trans (q_ld (w := 0) (by decide) dX4_resultSort_92 (al_19 _ _)) (q_ite ?_)
  exact q_call0 (as := [.int (h.1 19 ((v2 + 1).toNatClampNeg))]) (rest := [.int v5]) dX4_resultSort_93 mx_inv_4_93 rfl rfl rfl ⟨Nat.le_of_ble_eq_true rfl, Nat.le_of_ble_eq_true rfl, (Nat.le_of_ble_eq_true rfl)⟩
theorem e_X4_resultSort_96 (v1 : Option Nat) (v2 : Int32) (v3 : Int32) (v4 : Int32) (v5 : Int32) (s0 : Int32) (s1 : Int32) (h : mx_H)  : mx_D (2, mm_X4_resultSort, 96, [.ref 18, mx_rf v1, .int v2, .int v3, .int v4, .int v5], [.int s1, .int s0]) h = some (some (.int (s0 + s1)), h) := by
  refine Eq.trans (q_iadd dX4_resultSort_96) ?_
  exact q_retI dX4_resultSort_97 rfl
theorem e_X4_resultSort_98 (v1 : Option Nat) (v2 : Int32) (v3 : Int32) (v4 : Int32) (v5 : Int32) (h : mx_H)  : mx_D (2, mm_X4_resultSort, 98, [.ref 18, mx_rf v1, .int v2, .int v3, .int v4, .int v5], []) h = some (some (.int ((v3 - v4) + 1)), h) := by
  refine Eq.trans (q_iload_n dX4_resultSort_98 rfl) ?_
  refine Eq.trans (q_iload dX4_resultSort_99 rfl) ?_
  refine Eq.trans (q_isub dX4_resultSort_101) ?_
  refine Eq.trans (q_iconst (x := 1) dX4_resultSort_102 rfl) ?_
  refine Eq.trans (q_iadd dX4_resultSort_103) ?_
  exact q_retI dX4_resultSort_104 rfl
theorem e_X4_resultSort_105 (v1 : Option Nat) (v2 : Int32) (v3 : Int32) (v4 : Int32) (v5 : Int32) (h : mx_H)  : mx_D (2, mm_X4_resultSort, 105, [.ref 18, mx_rf v1, .int v2, .int v3, .int v4, .int v5], []) h = some (some (.int (v5 + v3)), h) := by
  refine Eq.trans (q_iload dX4_resultSort_105 rfl) ?_
  refine Eq.trans (q_iload_n dX4_resultSort_107 rfl) ?_
  refine Eq.trans (q_iadd dX4_resultSort_108) ?_
  exact q_retI dX4_resultSort_109 rfl
theorem e_X4_resultSort_110 (v1 : Option Nat) (v2 : Int32) (v3 : Int32) (v4 : Int32) (v5 : Int32) (h : mx_H) (hq0 : mx_wr (mx_rf v1) = true) : mx_D (2, mm_X4_resultSort, 110, [.ref 18, mx_rf v1, .int v2, .int v3, .int v4, .int v5], []) h = if (mx_rf v1 : Value) = .ref 1041 then mx_D (2, mm_X4_resultSort, 126, [.ref 18, mx_rf v1, .int v2, .int v3, .int v4, .int v5], [.int v5]) h else (mx_D (2, mm_X4_resultSort, 126, [.ref 18, mx_rf v1, .int v2, .int v3, .int v4, .int v5], [.int (v5 - 4)]) h) := by
  refine Eq.trans (q_aload_n dX4_resultSort_110 rfl (mx_ar_rf _)) ?_
  refine Eq.trans (q_gets dX4_resultSort_111 mx_sta_4_208) ?_
  refine Eq.trans (q_acmp_ne 122 dX4_resultSort_114 hq0 rfl rfl) (q_ite2 ?_ ?_)
  · refine Eq.trans (q_iload dX4_resultSort_117 rfl) ?_
    refine Eq.trans (q_goto 126 dX4_resultSort_119 rfl) ?_
    rfl
  · refine Eq.trans (q_iload dX4_resultSort_122 rfl) ?_
    refine Eq.trans (q_iconst (x := 4) dX4_resultSort_124 rfl) ?_
    refine Eq.trans (q_isub dX4_resultSort_125) ?_
    rfl
theorem e_X4_resultSort_126 (v1 : Option Nat) (v2 : Int32) (v3 : Int32) (v4 : Int32) (v5 : Int32) (s0 : Int32) (h : mx_H)  : mx_D (2, mm_X4_resultSort, 126, [.ref 18, mx_rf v1, .int v2, .int v3, .int v4, .int v5], [.int s0]) h = some (some (.int s0), h) := by
  exact q_retI dX4_resultSort_126 rfl
theorem e_X4_resultSort_127 (v1 : Option Nat) (v2 : Int32) (v3 : Int32) (v4 : Int32) (v5 : Int32) (h : mx_H)  : mx_D (2, mm_X4_resultSort, 127, [.ref 18, mx_rf v1, .int v2, .int v3, .int v4, .int v5], []) h = some (some (.int 0), h) := by
  refine Eq.trans (q_iconst (x := 0) dX4_resultSort_127 rfl) ?_
  exact q_retI dX4_resultSort_128 rfl
