theorem e_X11_isTrue_1_23 (v0 : Int32) (v1 : Int32) (v2 : Int32) (v3 : Int32) (h : mx_H) : mx_D (2, mm_X11_isTrue, 1, [.int v0, .int v1, .int v2, .int v3], [.int 23]) h = mx_D (2, mm_X11_isTrue, 243, [.int v0, .int v1, .int v2, .int v3], []) h := q_tsw 243 dX11_isTrue_1 rfl rfl
theorem e_X11_isTrue_1_24 (v0 : Int32) (v1 : Int32) (v2 : Int32) (v3 : Int32) (h : mx_H) : mx_D (2, mm_X11_isTrue, 1, [.int v0, .int v1, .int v2, .int v3], [.int 24]) h = mx_D (2, mm_X11_isTrue, 243, [.int v0, .int v1, .int v2, .int v3], []) h := q_tsw 243 dX11_isTrue_1 rfl rfl
theorem e_X11_isTrue_1_25 (v0 : Int32) (v1 : Int32) (v2 : Int32) (v3 : Int32) (h : mx_H) : mx_D (2, mm_X11_isTrue, 1, [.int v0, .int v1, .int v2, .int v3], [.int 25]) h = mx_D (2, mm_X11_isTrue, 202, [.int v0, .int v1, .int v2, .int v3], []) h := q_tsw 202 dX11_isTrue_1 rfl rfl
theorem e_X11_isTrue_1_26 (v0 : Int32) (v1 : Int32) (v2 : Int32) (v3 : Int32) (h : mx_H) : mx_D (2, mm_X11_isTrue, 1, [.int v0, .int v1, .int v2, .int v3], [.int 26]) h = mx_D (2, mm_X11_isTrue, 213, [.int v0, .int v1, .int v2, .int v3], []) h := q_tsw 213 dX11_isTrue_1 rfl rfl
theorem e_X11_isTrue_1_27 (v0 : Int32) (v1 : Int32) (v2 : Int32) (v3 : Int32) (h : mx_H) : mx_D (2, mm_X11_isTrue, 1, [.int v0, .int v1, .int v2, .int v3], [.int 27]) h = mx_D (2, mm_X11_isTrue, 224, [.int v0, .int v1, .int v2, .int v3], []) h := q_tsw 224 dX11_isTrue_1 rfl rfl
theorem e_X11_isTrue_1_d (v0 : Int32) (v1 : Int32) (v2 : Int32) (v3 : Int32) (x : Int32) (hx : x.toInt < 4 ∨ 27 < x.toInt) (h : mx_H) : mx_D (2, mm_X11_isTrue, 1, [.int v0, .int v1, .int v2, .int v3], [.int x]) h = mx_D (2, mm_X11_isTrue, 243, [.int v0, .int v1, .int v2, .int v3], []) h := q_tsw 243 dX11_isTrue_1 (if_pos hx) rfl
theorem e_X11_isTrue_112 (v0 : Int32) (v1 : Int32) (v2 : Int32) (v3 : Int32) (h : mx_H)  : mx_D (2, mm_X11_isTrue, 112, [.int v0, .int v1, .int v2, .int v3], []) h = if v1 = 0 then mx_D (2, mm_X11_isTrue, 121, [.int v0, .int v1, .int v2, .int v3], [.int 1]) h else (mx_D (2, mm_X11_isTrue, 121, [.int v0, .int v1, .int v2, .int v3], [.int 0]) h) := by
  refine Eq.trans (q_iload_n dX11_isTrue_112 rfl) ?_
  refine Eq.trans (q_if_ne 120 dX11_isTrue_113 rfl) (q_ite2 ?_ ?_)
  · refine Eq.trans (q_iconst (x := 1) dX11_isTrue_116 rfl) ?_
    refine Eq.trans (q_goto 121 dX11_isTrue_117 rfl) ?_
    rfl
  · refine Eq.trans (q_iconst (x := 0) dX11_isTrue_120 rfl) ?_
    rfl
theorem e_X11_isTrue_121 (v0 : Int32) (v1 : Int32) (v2 : Int32) (v3 : Int32) (s0 : Int32) (h : mx_H)  : mx_D (2, mm_X11_isTrue, 121, [.int v0, .int v1, .int v2, .int v3], [.int s0]) h = if narrow .boolean (.int s0) = .int s0 then some (some (.int s0), h) else none := by
  exact q_ret dX11_isTrue_121 rfl
theorem e_X11_isTrue_122 (v0 : Int32) (v1 : Int32) (v2 : Int32) (v3 : Int32) (h : mx_H)  : mx_D (2, mm_X11_isTrue, 122, [.int v0, .int v1, .int v2, .int v3], []) h = if v1 = 1 then if v2 = 1 then mx_D (2, mm_X11_isTrue, 137, [.int v0, .int v1, .int v2, .int v3], [.int 1]) h else (mx_D (2, mm_X11_isTrue, 136, [.int v0, .int v1, .int v2, .int v3], []) h) else (mx_D (2, mm_X11_isTrue, 136, [.int v0, .int v1, .int v2, .int v3], []) h) := by
  refine Eq.trans (q_iload_n dX11_isTrue_122 rfl) ?_
  refine Eq.trans (q_iconst (x := 1) dX11_isTrue_123 rfl) ?_
  refine Eq.trans (q_icmp_ne 136 dX11_isTrue_124 rfl) (q_ite2 ?_ ?_)
  · refine Eq.trans (q_iload_n dX11_isTrue_127 rfl) ?_
    refine Eq.trans (q_iconst (x := 1) dX11_isTrue_128 rfl) ?_
    refine Eq.trans (q_icmp_ne 136 dX11_isTrue_129 rfl) (q_ite2 ?_ ?_)
    · refine Eq.trans (q_iconst (x := 1) dX11_isTrue_132 rfl) ?_
      refine Eq.trans (q_goto 137 dX11_isTrue_133 rfl) ?_
      rfl
    · rfl
  · rfl
theorem e_X11_isTrue_136 (v0 : Int32) (v1 : Int32) (v2 : Int32) (v3 : Int32) (h : mx_H)  : mx_D (2, mm_X11_isTrue, 136, [.int v0, .int v1, .int v2, .int v3], []) h = mx_D (2, mm_X11_isTrue, 137, [.int v0, .int v1, .int v2, .int v3], [.int 0]) h := by
  refine Eq.trans (q_iconst (x := 0) dX11_isTrue_136 rfl) ?_
  rfl
theorem e_X11_isTrue_137 (v0 : Int32) (v1 : Int32) (v2 : Int32) (v3 : Int32) (s0 : Int32) (h : mx_H)  : mx_D (2, mm_X11_isTrue, 137, [.int v0, .int v1, .int v2, .int v3], [.int s0]) h = if narrow .boolean (.int s0) = .int s0 then some (some (.int s0), h) else none := by
  exact q_ret dX11_isTrue_137 rfl
theorem e_X11_isTrue_138 (v0 : Int32) (v1 : Int32) (v2 : Int32) (v3 : Int32) (h : mx_H)  : mx_D (2, mm_X11_isTrue, 138, [.int v0, .int v1, .int v2, .int v3], []) h = if v1 = 1 then mx_D (2, mm_X11_isTrue, 148, [.int v0, .int v1, .int v2, .int v3], []) h else (if v2 = 1 then mx_D (2, mm_X11_isTrue, 148, [.int v0, .int v1, .int v2, .int v3], []) h else (mx_D (2, mm_X11_isTrue, 153, [.int v0, .int v1, .int v2, .int v3], [.int 0]) h)) := by
  refine Eq.trans (q_iload_n dX11_isTrue_138 rfl) ?_
  refine Eq.trans (q_iconst (x := 1) dX11_isTrue_139 rfl) ?_
  refine Eq.trans (q_icmp_eq 148 dX11_isTrue_140 rfl) (q_ite2 ?_ ?_)
  · rfl
  · refine Eq.trans (q_iload_n dX11_isTrue_143 rfl) ?_
    refine Eq.trans (q_iconst (x := 1) dX11_isTrue_144 rfl) ?_
    refine Eq.trans (q_icmp_ne 152 dX11_isTrue_145 rfl) (q_ite2 ?_ ?_)
    · rfl
    · refine Eq.trans (q_iconst (x := 0) dX11_isTrue_152 rfl) ?_
      rfl
theorem e_X11_isTrue_148 (v0 : Int32) (v1 : Int32) (v2 : Int32) (v3 : Int32) (h : mx_H)  : mx_D (2, mm_X11_isTrue, 148, [.int v0, .int v1, .int v2, .int v3], []) h = mx_D (2, mm_X11_isTrue, 153, [.int v0, .int v1, .int v2, .int v3], [.int 1]) h := by
  refine Eq.trans (q_iconst (x := 1) dX11_isTrue_148 rfl) ?_
  refine Eq.trans (q_goto 153 dX11_isTrue_149 rfl) ?_
  rfl
theorem e_X11_isTrue_153 (v0 : Int32) (v1 : Int32) (v2 : Int32) (v3 : Int32) (s0 : Int32) (h : mx_H)  : mx_D (2, mm_X11_isTrue, 153, [.int v0, .int v1, .int v2, .int v3], [.int s0]) h = if narrow .boolean (.int s0) = .int s0 then some (some (.int s0), h) else none := by
  exact q_ret dX11_isTrue_153 rfl
theorem e_X11_isTrue_154 (v0 : Int32) (v1 : Int32) (v2 : Int32) (v3 : Int32) (h : mx_H)  : mx_D (2, mm_X11_isTrue, 154, [.int v0, .int v1, .int v2, .int v3], []) h = if v1 = v2 then mx_D (2, mm_X11_isTrue, 164, [.int v0, .int v1, .int v2, .int v3], [.int 0]) h else (mx_D (2, mm_X11_isTrue, 164, [.int v0, .int v1, .int v2, .int v3], [.int 1]) h) := by
  refine Eq.trans (q_iload_n dX11_isTrue_154 rfl) ?_
  refine Eq.trans (q_iload_n dX11_isTrue_155 rfl) ?_
  refine Eq.trans (q_icmp_eq 163 dX11_isTrue_156 rfl) (q_ite2 ?_ ?_)
  · refine Eq.trans (q_iconst (x := 0) dX11_isTrue_163 rfl) ?_
    rfl
  · refine Eq.trans (q_iconst (x := 1) dX11_isTrue_159 rfl) ?_
    refine Eq.trans (q_goto 164 dX11_isTrue_160 rfl) ?_
    rfl
theorem e_X11_isTrue_164 (v0 : Int32) (v1 : Int32) (v2 : Int32) (v3 : Int32) (s0 : Int32) (h : mx_H)  : mx_D (2, mm_X11_isTrue, 164, [.int v0, .int v1, .int v2, .int v3], [.int s0]) h = if narrow .boolean (.int s0) = .int s0 then some (some (.int s0), h) else none := by
  exact q_ret dX11_isTrue_164 rfl
theorem e_X11_isTrue_165 (v0 : Int32) (v1 : Int32) (v2 : Int32) (v3 : Int32) (h : mx_H)  : mx_D (2, mm_X11_isTrue, 165, [.int v0, .int v1, .int v2, .int v3], []) h = if v1 = 0 then mx_D (2, mm_X11_isTrue, 174, [.int v0, .int v1, .int v2, .int v3], []) h else (if v2 = 1 then mx_D (2, mm_X11_isTrue, 174, [.int v0, .int v1, .int v2, .int v3], []) h else (mx_D (2, mm_X11_isTrue, 179, [.int v0, .int v1, .int v2, .int v3], [.int 0]) h)) := by
  refine Eq.trans (q_iload_n dX11_isTrue_165 rfl) ?_
  refine Eq.trans (q_if_eq 174 dX11_isTrue_166 rfl) (q_ite2 ?_ ?_)
  · rfl
  · refine Eq.trans (q_iload_n dX11_isTrue_169 rfl) ?_
    refine Eq.trans (q_iconst (x := 1) dX11_isTrue_170 rfl) ?_
    refine Eq.trans (q_icmp_ne 178 dX11_isTrue_171 rfl) (q_ite2 ?_ ?_)
    · rfl
    · refine Eq.trans (q_iconst (x := 0) dX11_isTrue_178 rfl) ?_
      rfl
theorem e_X11_isTrue_174 (v0 : Int32) (v1 : Int32) (v2 : Int32) (v3 : Int32) (h : mx_H)  : mx_D (2, mm_X11_isTrue, 174, [.int v0, .int v1, .int v2, .int v3], []) h = mx_D (2, mm_X11_isTrue, 179, [.int v0, .int v1, .int v2, .int v3], [.int 1]) h := by
  refine Eq.trans (q_iconst (x := 1) dX11_isTrue_174 rfl) ?_
  refine Eq.trans (q_goto 179 dX11_isTrue_175 rfl) ?_
  rfl
theorem e_X11_isTrue_179 (v0 : Int32) (v1 : Int32) (v2 : Int32) (v3 : Int32) (s0 : Int32) (h : mx_H)  : mx_D (2, mm_X11_isTrue, 179, [.int v0, .int v1, .int v2, .int v3], [.int s0]) h = if narrow .boolean (.int s0) = .int s0 then some (some (.int s0), h) else none := by
  exact q_ret dX11_isTrue_179 rfl
theorem e_X11_isTrue_180 (v0 : Int32) (v1 : Int32) (v2 : Int32) (v3 : Int32) (h : mx_H)  : mx_D (2, mm_X11_isTrue, 180, [.int v0, .int v1, .int v2, .int v3], []) h = if v1 = v2 then mx_D (2, mm_X11_isTrue, 190, [.int v0, .int v1, .int v2, .int v3], [.int 1]) h else (mx_D (2, mm_X11_isTrue, 190, [.int v0, .int v1, .int v2, .int v3], [.int 0]) h) := by
  refine Eq.trans (q_iload_n dX11_isTrue_180 rfl) ?_
  refine Eq.trans (q_iload_n dX11_isTrue_181 rfl) ?_
  refine Eq.trans (q_icmp_ne 189 dX11_isTrue_182 rfl) (q_ite2 ?_ ?_)
  · refine Eq.trans (q_iconst (x := 1) dX11_isTrue_185 rfl) ?_
    refine Eq.trans (q_goto 190 dX11_isTrue_186 rfl) ?_
    rfl
  · refine Eq.trans (q_iconst (x := 0) dX11_isTrue_189 rfl) ?_
    rfl
theorem e_X11_isTrue_190 (v0 : Int32) (v1 : Int32) (v2 : Int32) (v3 : Int32) (s0 : Int32) (h : mx_H)  : mx_D (2, mm_X11_isTrue, 190, [.int v0, .int v1, .int v2, .int v3], [.int s0]) h = if narrow .boolean (.int s0) = .int s0 then some (some (.int s0), h) else none := by
  exact q_ret dX11_isTrue_190 rfl
theorem e_X11_isTrue_191 (v0 : Int32) (v1 : Int32) (v2 : Int32) (v3 : Int32) (h : mx_H)  : mx_D (2, mm_X11_isTrue, 191, [.int v0, .int v1, .int v2, .int v3], []) h = if v1 = v2 then mx_D (2, mm_X11_isTrue, 201, [.int v0, .int v1, .int v2, .int v3], [.int 0]) h else (mx_D (2, mm_X11_isTrue, 201, [.int v0, .int v1, .int v2, .int v3], [.int 1]) h) := by
  refine Eq.trans (q_iload_n dX11_isTrue_191 rfl) ?_
  refine Eq.trans (q_iload_n dX11_isTrue_192 rfl) ?_
  refine Eq.trans (q_icmp_eq 200 dX11_isTrue_193 rfl) (q_ite2 ?_ ?_)
  · refine Eq.trans (q_iconst (x := 0) dX11_isTrue_200 rfl) ?_
    rfl
  · refine Eq.trans (q_iconst (x := 1) dX11_isTrue_196 rfl) ?_
    refine Eq.trans (q_goto 201 dX11_isTrue_197 rfl) ?_
    rfl
theorem e_X11_isTrue_201 (v0 : Int32) (v1 : Int32) (v2 : Int32) (v3 : Int32) (s0 : Int32) (h : mx_H)  : mx_D (2, mm_X11_isTrue, 201, [.int v0, .int v1, .int v2, .int v3], [.int s0]) h = if narrow .boolean (.int s0) = .int s0 then some (some (.int s0), h) else none := by
  exact q_ret dX11_isTrue_201 rfl
theorem e_X11_isTrue_202 (v0 : Int32) (v1 : Int32) (v2 : Int32) (v3 : Int32) (h : mx_H)  : mx_D (2, mm_X11_isTrue, 202, [.int v0, .int v1, .int v2, .int v3], []) h = if v2 ≤ v1 then mx_D (2, mm_X11_isTrue, 212, [.int v0, .int v1, .int v2, .int v3], [.int 0]) h else (mx_D (2, mm_X11_isTrue, 212, [.int v0, .int v1, .int v2, .int v3], [.int 1]) h) := by
  refine Eq.trans (q_iload_n dX11_isTrue_202 rfl) ?_
  refine Eq.trans (q_iload_n dX11_isTrue_203 rfl) ?_
  refine Eq.trans (q_icmp_ge 211 dX11_isTrue_204 rfl) (q_ite2 ?_ ?_)
  · refine Eq.trans (q_iconst (x := 0) dX11_isTrue_211 rfl) ?_
    rfl
  · refine Eq.trans (q_iconst (x := 1) dX11_isTrue_207 rfl) ?_
    refine Eq.trans (q_goto 212 dX11_isTrue_208 rfl) ?_
    rfl
theorem e_X11_isTrue_212 (v0 : Int32) (v1 : Int32) (v2 : Int32) (v3 : Int32) (s0 : Int32) (h : mx_H)  : mx_D (2, mm_X11_isTrue, 212, [.int v0, .int v1, .int v2, .int v3], [.int s0]) h = if narrow .boolean (.int s0) = .int s0 then some (some (.int s0), h) else none := by
  exact q_ret dX11_isTrue_212 rfl
theorem e_X11_isTrue_213 (v0 : Int32) (v1 : Int32) (v2 : Int32) (v3 : Int32) (h : mx_H)  : mx_D (2, mm_X11_isTrue, 213, [.int v0, .int v1, .int v2, .int v3], []) h = if v2 < v1 then mx_D (2, mm_X11_isTrue, 223, [.int v0, .int v1, .int v2, .int v3], [.int 0]) h else (mx_D (2, mm_X11_isTrue, 223, [.int v0, .int v1, .int v2, .int v3], [.int 1]) h) := by
  refine Eq.trans (q_iload_n dX11_isTrue_213 rfl) ?_
  refine Eq.trans (q_iload_n dX11_isTrue_214 rfl) ?_
  refine Eq.trans (q_icmp_gt 222 dX11_isTrue_215 rfl) (q_ite2 ?_ ?_)
  · refine Eq.trans (q_iconst (x := 0) dX11_isTrue_222 rfl) ?_
    rfl
  · refine Eq.trans (q_iconst (x := 1) dX11_isTrue_218 rfl) ?_
    refine Eq.trans (q_goto 223 dX11_isTrue_219 rfl) ?_
    rfl
theorem e_X11_isTrue_223 (v0 : Int32) (v1 : Int32) (v2 : Int32) (v3 : Int32) (s0 : Int32) (h : mx_H)  : mx_D (2, mm_X11_isTrue, 223, [.int v0, .int v1, .int v2, .int v3], [.int s0]) h = if narrow .boolean (.int s0) = .int s0 then some (some (.int s0), h) else none := by
  exact q_ret dX11_isTrue_223 rfl
theorem e_X11_isTrue_224 (v0 : Int32) (v1 : Int32) (v2 : Int32) (v3 : Int32) (h : mx_H)  : mx_D (2, mm_X11_isTrue, 224, [.int v0, .int v1, .int v2, .int v3], []) h = (mx_C mm_X11_sign [.int v1, .int v3] h).bind (fun o => mx_D (2, mm_X11_isTrue, 229, [.int v0, .int v1, .int v2, .int v3], o.1.toList ++ []) o.2) := by
  refine Eq.trans (q_iload_n dX11_isTrue_224 rfl) ?_
  refine Eq.trans (q_iload_n dX11_isTrue_225 rfl) ?_
  exact q_call1 (as := [.int v1, .int v3]) (rest := []) dX11_isTrue_226 mx_inv_11_335 rfl rfl ⟨Nat.le_of_ble_eq_true rfl, Nat.le_of_ble_eq_true rfl, (Nat.le_of_ble_eq_true rfl)⟩
theorem e_X11_isTrue_229 (v0 : Int32) (v1 : Int32) (v2 : Int32) (v3 : Int32) (s0 : Int32) (h : mx_H)  : mx_D (2, mm_X11_isTrue, 229, [.int v0, .int v1, .int v2, .int v3], [.int s0]) h = (mx_C mm_X11_sign [.int v2, .int v3] h).bind (fun o => mx_D (2, mm_X11_isTrue, 234, [.int v0, .int v1, .int v2, .int v3], o.1.toList ++ [.int s0]) o.2) := by
  refine Eq.trans (q_iload_n dX11_isTrue_229 rfl) ?_
  refine Eq.trans (q_iload_n dX11_isTrue_230 rfl) ?_
  exact q_call1 (as := [.int v2, .int v3]) (rest := [.int s0]) dX11_isTrue_231 mx_inv_11_335 rfl rfl ⟨Nat.le_of_ble_eq_true rfl, Nat.le_of_ble_eq_true rfl, (Nat.le_of_ble_eq_true rfl)⟩
theorem e_X11_isTrue_234 (v0 : Int32) (v1 : Int32) (v2 : Int32) (v3 : Int32) (s0 : Int32) (s1 : Int32) (h : mx_H)  : mx_D (2, mm_X11_isTrue, 234, [.int v0, .int v1, .int v2, .int v3], [.int s1, .int s0]) h = if s1 ≤ s0 then mx_D (2, mm_X11_isTrue, 242, [.int v0, .int v1, .int v2, .int v3], [.int 0]) h else (mx_D (2, mm_X11_isTrue, 242, [.int v0, .int v1, .int v2, .int v3], [.int 1]) h) := by
  refine Eq.trans (q_icmp_ge 241 dX11_isTrue_234 rfl) (q_ite2 ?_ ?_)
  · refine Eq.trans (q_iconst (x := 0) dX11_isTrue_241 rfl) ?_
    rfl
  · refine Eq.trans (q_iconst (x := 1) dX11_isTrue_237 rfl) ?_
    refine Eq.trans (q_goto 242 dX11_isTrue_238 rfl) ?_
    rfl
theorem e_X11_isTrue_242 (v0 : Int32) (v1 : Int32) (v2 : Int32) (v3 : Int32) (s0 : Int32) (h : mx_H)  : mx_D (2, mm_X11_isTrue, 242, [.int v0, .int v1, .int v2, .int v3], [.int s0]) h = if narrow .boolean (.int s0) = .int s0 then some (some (.int s0), h) else none := by
  exact q_ret dX11_isTrue_242 rfl
theorem e_X11_isTrue_243 (v0 : Int32) (v1 : Int32) (v2 : Int32) (v3 : Int32) (h : mx_H)  : mx_D (2, mm_X11_isTrue, 243, [.int v0, .int v1, .int v2, .int v3], []) h = (mx_C mm_X11_sign [.int v1, .int v3] h).bind (fun o => mx_D (2, mm_X11_isTrue, 248, [.int v0, .int v1, .int v2, .int v3], o.1.toList ++ []) o.2) := by
  refine Eq.trans (q_iload_n dX11_isTrue_243 rfl) ?_
  refine Eq.trans (q_iload_n dX11_isTrue_244 rfl) ?_
  exact q_call1 (as := [.int v1, .int v3]) (rest := []) dX11_isTrue_245 mx_inv_11_335 rfl rfl ⟨Nat.le_of_ble_eq_true rfl, Nat.le_of_ble_eq_true rfl, (Nat.le_of_ble_eq_true rfl)⟩
theorem e_X11_isTrue_248 (v0 : Int32) (v1 : Int32) (v2 : Int32) (v3 : Int32) (s0 : Int32) (h : mx_H)  : mx_D (2, mm_X11_isTrue, 248, [.int v0, .int v1, .int v2, .int v3], [.int s0]) h = (mx_C mm_X11_sign [.int v2, .int v3] h).bind (fun o => mx_D (2, mm_X11_isTrue, 253, [.int v0, .int v1, .int v2, .int v3], o.1.toList ++ [.int s0]) o.2) := by
  refine Eq.trans (q_iload_n dX11_isTrue_248 rfl) ?_
  refine Eq.trans (q_iload_n dX11_isTrue_249 rfl) ?_
  exact q_call1 (as := [.int v2, .int v3]) (rest := [.int s0]) dX11_isTrue_250 mx_inv_11_335 rfl rfl ⟨Nat.le_of_ble_eq_true rfl, Nat.le_of_ble_eq_true rfl, (Nat.le_of_ble_eq_true rfl)⟩
theorem e_X11_isTrue_253 (v0 : Int32) (v1 : Int32) (v2 : Int32) (v3 : Int32) (s0 : Int32) (s1 : Int32) (h : mx_H)  : mx_D (2, mm_X11_isTrue, 253, [.int v0, .int v1, .int v2, .int v3], [.int s1, .int s0]) h = if s1 < s0 then mx_D (2, mm_X11_isTrue, 261, [.int v0, .int v1, .int v2, .int v3], [.int 0]) h else (mx_D (2, mm_X11_isTrue, 261, [.int v0, .int v1, .int v2, .int v3], [.int 1]) h) := by
  refine Eq.trans (q_icmp_gt 260 dX11_isTrue_253 rfl) (q_ite2 ?_ ?_)
  · refine Eq.trans (q_iconst (x := 0) dX11_isTrue_260 rfl) ?_
    rfl
  · refine Eq.trans (q_iconst (x := 1) dX11_isTrue_256 rfl) ?_
    refine Eq.trans (q_goto 261 dX11_isTrue_257 rfl) ?_
    rfl
theorem e_X11_isTrue_261 (v0 : Int32) (v1 : Int32) (v2 : Int32) (v3 : Int32) (s0 : Int32) (h : mx_H)  : mx_D (2, mm_X11_isTrue, 261, [.int v0, .int v1, .int v2, .int v3], [.int s0]) h = if narrow .boolean (.int s0) = .int s0 then some (some (.int s0), h) else none := by
  exact q_ret dX11_isTrue_261 rfl
theorem e_X11_work_0 (v1 : Int32) (h : mx_H)  : mx_D (3, mm_X11_work, 0, [.ref 47, .int v1, mx_junk, mx_junk, mx_junk, mx_junk, mx_junk, mx_junk, mx_junk, mx_junk, mx_junk], []) h = if mx_in v1 130 = true then if mx_in v1 130 = true then if 0 ≤ (h.1 51 v1.toNatClampNeg) then if mx_in v1 130 = true then if mx_in (h.1 51 v1.toNatClampNeg) 130 = true then mx_D (3, mm_X11_work, 31, [.ref 47, .int v1, .int (h.1 49 v1.toNatClampNeg), mx_junk, mx_junk, mx_junk, mx_junk, mx_junk, mx_junk, mx_junk, mx_junk], [.int (h.1 68 ((h.1 51 v1.toNatClampNeg).toNatClampNeg))]) h else none else none else (mx_D (3, mm_X11_work, 31, [.ref 47, .int v1, .int (h.1 49 v1.toNatClampNeg), mx_junk, mx_junk, mx_junk, mx_junk, mx_junk, mx_junk, mx_junk, mx_junk], [.int 0]) h) else none else none := by
  refine Eq.trans (q_aload_n dX11_work_0 rfl rfl) ?_
  refine Eq.trans (q_getf dX11_work_1 mx_fld_11_13 (gf_47_10 _)) ?_
  refine Eq.trans (q_iload_n dX11_work_4 rfl) ?_
  refine Eq.trans (q_ld (w := 0) (by decide) dX11_work_5 (al_49 _ _)) (q_ite ?_)
  refine Eq.trans (q_istore_n (L' := [.ref 47, .int v1, .int (h.1 49 v1.toNatClampNeg), mx_junk, mx_junk, mx_junk, mx_junk, mx_junk, mx_junk, mx_junk, mx_junk]) dX11_work_6 (Nat.le_of_ble_eq_true rfl) rfl) ?_
  refine Eq.trans (q_aload_n dX11_work_7 rfl rfl) ?_
  refine Eq.trans (q_getf dX11_work_8 mx_fld_11_19 (gf_47_12 _)) ?_
  refine Eq.trans (q_iload_n dX11_work_11 rfl) ?_
  refine Eq.trans (q_ld (w := 0) (by decide) dX11_work_12 (al_51 _ _)) (q_ite ?_)
  refine Eq.trans (q_if_ge 20 dX11_work_13 rfl) (q_ite2 ?_ ?_)
  · refine Eq.trans (q_aload_n dX11_work_20 rfl rfl) ?_
    refine Eq.trans (q_getf dX11_work_21 mx_fld_11_71 (gf_47_36 _)) ?_
    refine Eq.trans (q_aload_n dX11_work_24 rfl rfl) ?_
    refine Eq.trans (q_getf dX11_work_25 mx_fld_11_19 (gf_47_12 _)) ?_
    refine Eq.trans (q_iload_n dX11_work_28 rfl) ?_
    refine Eq.trans (q_ld (w := 0) (by decide) dX11_work_29 (al_51 _ _)) (q_ite ?_)
    refine Eq.trans (q_ld (w := 0) (by decide) dX11_work_30 (al_68 _ _)) (q_ite ?_)
    rfl
  · refine Eq.trans (q_iconst (x := 0) dX11_work_16 rfl) ?_
    refine Eq.trans (q_goto 31 dX11_work_17 rfl) ?_
    rfl
theorem c_X11_work (v1 : Int32) (h : mx_H) : mx_C mm_X11_work [.ref 47, .int v1] h = mx_D (3, mm_X11_work, 0, [.ref 47, .int v1, mx_junk, mx_junk, mx_junk, mx_junk, mx_junk, mx_junk, mx_junk, mx_junk, mx_junk], []) h := rfl
theorem e_X11_work_31 (v1 : Int32) (v2 : Int32) (s0 : Int32) (h : mx_H)  : mx_D (3, mm_X11_work, 31, [.ref 47, .int v1, .int v2, mx_junk, mx_junk, mx_junk, mx_junk, mx_junk, mx_junk, mx_junk, mx_junk], [.int s0]) h = if mx_in v1 130 = true then if 0 ≤ (h.1 52 v1.toNatClampNeg) then if mx_in v1 130 = true then if mx_in (h.1 52 v1.toNatClampNeg) 130 = true then mx_D (3, mm_X11_work, 56, [.ref 47, .int v1, .int v2, .int s0, mx_junk, mx_junk, mx_junk, mx_junk, mx_junk, mx_junk, mx_junk], [.int (h.1 68 ((h.1 52 v1.toNatClampNeg).toNatClampNeg))]) h else none else none else (mx_D (3, mm_X11_work, 56, [.ref 47, .int v1, .int v2, .int s0, mx_junk, mx_junk, mx_junk, mx_junk, mx_junk, mx_junk, mx_junk], [.int 0]) h) else none := by
  refine Eq.trans (q_istore_n (L' := [.ref 47, .int v1, .int v2, .int s0, mx_junk, mx_junk, mx_junk, mx_junk, mx_junk, mx_junk, mx_junk]) dX11_work_31 (Nat.le_of_ble_eq_true rfl) rfl) ?_
  refine Eq.trans (q_aload_n dX11_work_32 rfl rfl) ?_
  refine Eq.trans (q_getf dX11_work_33 mx_fld_11_22 (gf_47_13 _)) ?_
  refine Eq.trans (q_iload_n dX11_work_36 rfl) ?_
  refine Eq.trans (q_ld (w := 0) (by decide) dX11_work_37 (al_52 _ _)) (q_ite ?_)
  refine Eq.trans (q_if_ge 45 dX11_work_38 rfl) (q_ite2 ?_ ?_)
  · refine Eq.trans (q_aload_n dX11_work_45 rfl rfl) ?_
    refine Eq.trans (q_getf dX11_work_46 mx_fld_11_71 (gf_47_36 _)) ?_
    refine Eq.trans (q_aload_n dX11_work_49 rfl rfl) ?_
    refine Eq.trans (q_getf dX11_work_50 mx_fld_11_22 (gf_47_13 _)) ?_
    refine Eq.trans (q_iload_n dX11_work_53 rfl) ?_
    refine Eq.trans (q_ld (w := 0) (by decide) dX11_work_54 (al_52 _ _)) (q_ite ?_)
    refine Eq.trans (q_ld (w := 0) (by decide) dX11_work_55 (al_68 _ _)) (q_ite ?_)
    rfl
  · refine Eq.trans (q_iconst (x := 0) dX11_work_41 rfl) ?_
    refine Eq.trans (q_goto 56 dX11_work_42 rfl) ?_
    rfl
theorem e_X11_work_56 (v1 : Int32) (v2 : Int32) (v3 : Int32) (s0 : Int32) (h : mx_H)  : mx_D (3, mm_X11_work, 56, [.ref 47, .int v1, .int v2, .int v3, mx_junk, mx_junk, mx_junk, mx_junk, mx_junk, mx_junk, mx_junk], [.int s0]) h = if mx_in v1 130 = true then if 0 ≤ (h.1 53 v1.toNatClampNeg) then if mx_in v1 130 = true then if mx_in (h.1 53 v1.toNatClampNeg) 130 = true then mx_D (3, mm_X11_work, 82, [.ref 47, .int v1, .int v2, .int v3, .int s0, mx_junk, mx_junk, mx_junk, mx_junk, mx_junk, mx_junk], [.int (h.1 68 ((h.1 53 v1.toNatClampNeg).toNatClampNeg))]) h else none else none else (mx_D (3, mm_X11_work, 82, [.ref 47, .int v1, .int v2, .int v3, .int s0, mx_junk, mx_junk, mx_junk, mx_junk, mx_junk, mx_junk], [.int 0]) h) else none := by
  refine Eq.trans (q_istore (L' := [.ref 47, .int v1, .int v2, .int v3, .int s0, mx_junk, mx_junk, mx_junk, mx_junk, mx_junk, mx_junk]) dX11_work_56 (Nat.le_of_ble_eq_true rfl) rfl) ?_
  refine Eq.trans (q_aload_n dX11_work_58 rfl rfl) ?_
  refine Eq.trans (q_getf dX11_work_59 mx_fld_11_25 (gf_47_14 _)) ?_
  refine Eq.trans (q_iload_n dX11_work_62 rfl) ?_
  refine Eq.trans (q_ld (w := 0) (by decide) dX11_work_63 (al_53 _ _)) (q_ite ?_)
  refine Eq.trans (q_if_ge 71 dX11_work_64 rfl) (q_ite2 ?_ ?_)
  · refine Eq.trans (q_aload_n dX11_work_71 rfl rfl) ?_
    refine Eq.trans (q_getf dX11_work_72 mx_fld_11_71 (gf_47_36 _)) ?_
    refine Eq.trans (q_aload_n dX11_work_75 rfl rfl) ?_
    refine Eq.trans (q_getf dX11_work_76 mx_fld_11_25 (gf_47_14 _)) ?_
    refine Eq.trans (q_iload_n dX11_work_79 rfl) ?_
    refine Eq.trans (q_ld (w := 0) (by decide) dX11_work_80 (al_53 _ _)) (q_ite ?_)
    refine Eq.trans (q_ld (w := 0) (by decide) dX11_work_81 (al_68 _ _)) (q_ite ?_)
    rfl
  · refine Eq.trans (q_iconst (x := 0) dX11_work_67 rfl) ?_
    refine Eq.trans (q_goto 82 dX11_work_68 rfl) ?_
    rfl
theorem e_X11_work_82 (v1 : Int32) (v2 : Int32) (v3 : Int32) (v4 : Int32) (s0 : Int32) (h : mx_H)  : mx_D (3, mm_X11_work, 82, [.ref 47, .int v1, .int v2, .int v3, .int v4, mx_junk, mx_junk, mx_junk, mx_junk, mx_junk, mx_junk], [.int s0]) h = if mx_in v1 130 = true then if 0 ≤ (h.1 51 v1.toNatClampNeg) then if mx_in v1 130 = true then if mx_in (h.1 51 v1.toNatClampNeg) 130 = true then mx_D (3, mm_X11_work, 108, [.ref 47, .int v1, .int v2, .int v3, .int v4, .int s0, mx_junk, mx_junk, mx_junk, mx_junk, mx_junk], [.int (h.1 50 ((h.1 51 v1.toNatClampNeg).toNatClampNeg))]) h else none else none else (mx_D (3, mm_X11_work, 108, [.ref 47, .int v1, .int v2, .int v3, .int v4, .int s0, mx_junk, mx_junk, mx_junk, mx_junk, mx_junk], [.int 1]) h) else none := by
  refine Eq.trans (q_istore (L' := [.ref 47, .int v1, .int v2, .int v3, .int v4, .int s0, mx_junk, mx_junk, mx_junk, mx_junk, mx_junk]) dX11_work_82 (Nat.le_of_ble_eq_true rfl) rfl) ?_
  refine Eq.trans (q_aload_n dX11_work_84 rfl rfl) ?_
  refine Eq.trans (q_getf dX11_work_85 mx_fld_11_19 (gf_47_12 _)) ?_
  refine Eq.trans (q_iload_n dX11_work_88 rfl) ?_
  refine Eq.trans (q_ld (w := 0) (by decide) dX11_work_89 (al_51 _ _)) (q_ite ?_)
  refine Eq.trans (q_if_ge 97 dX11_work_90 rfl) (q_ite2 ?_ ?_)
  · refine Eq.trans (q_aload_n dX11_work_97 rfl rfl) ?_
    refine Eq.trans (q_getf dX11_work_98 mx_fld_11_16 (gf_47_11 _)) ?_
    refine Eq.trans (q_aload_n dX11_work_101 rfl rfl) ?_
    refine Eq.trans (q_getf dX11_work_102 mx_fld_11_19 (gf_47_12 _)) ?_
    refine Eq.trans (q_iload_n dX11_work_105 rfl) ?_
    refine Eq.trans (q_ld (w := 0) (by decide) dX11_work_106 (al_51 _ _)) (q_ite ?_)
    refine Eq.trans (q_ld (w := 0) (by decide) dX11_work_107 (al_50 _ _)) (q_ite ?_)
    rfl
  · refine Eq.trans (q_iconst (x := 1) dX11_work_93 rfl) ?_
    refine Eq.trans (q_goto 108 dX11_work_94 rfl) ?_
    rfl
theorem e_X11_work_108 (v1 : Int32) (v2 : Int32) (v3 : Int32) (v4 : Int32) (v5 : Int32) (s0 : Int32) (h : mx_H)  : mx_D (3, mm_X11_work, 108, [.ref 47, .int v1, .int v2, .int v3, .int v4, .int v5, mx_junk, mx_junk, mx_junk, mx_junk, mx_junk], [.int s0]) h = if mx_in v1 130 = true then if v2 = 1 then mx_D (3, mm_X11_work, 128, [.ref 47, .int v1, .int v2, .int v3, .int v4, .int v5, .int s0, .int (h.1 50 v1.toNatClampNeg), mx_junk, mx_junk, mx_junk], []) h else (if v2 = 2 then mx_D (3, mm_X11_work, 128, [.ref 47, .int v1, .int v2, .int v3, .int v4, .int v5, .int s0, .int (h.1 50 v1.toNatClampNeg), mx_junk, mx_junk, mx_junk], []) h else (if v2 = 3 then if mx_in v1 130 = true then some (some (.int (h.1 55 v1.toNatClampNeg)), h) else none else ((mx_C mm_X11_in [.int v2, .int 4, .int 10] h).bind (fun o => mx_D (3, mm_X11_work, 158, [.ref 47, .int v1, .int v2, .int v3, .int v4, .int v5, .int s0, .int (h.1 50 v1.toNatClampNeg), mx_junk, mx_junk, mx_junk], o.1.toList ++ []) o.2)))) else none := by
  refine Eq.trans (q_istore (L' := [.ref 47, .int v1, .int v2, .int v3, .int v4, .int v5, .int s0, mx_junk, mx_junk, mx_junk, mx_junk]) dX11_work_108 (Nat.le_of_ble_eq_true rfl) rfl) ?_
  refine Eq.trans (q_aload_n dX11_work_110 rfl rfl) ?_
  refine Eq.trans (q_getf dX11_work_111 mx_fld_11_16 (gf_47_11 _)) ?_
  refine Eq.trans (q_iload_n dX11_work_114 rfl) ?_
  refine Eq.trans (q_ld (w := 0) (by decide) dX11_work_115 (al_50 _ _)) (q_ite ?_)
  refine Eq.trans (q_istore (L' := [.ref 47, .int v1, .int v2, .int v3, .int v4, .int v5, .int s0, .int (h.1 50 v1.toNatClampNeg), mx_junk, mx_junk, mx_junk]) dX11_work_116 (Nat.le_of_ble_eq_true rfl) rfl) ?_
  refine Eq.trans (q_iload_n dX11_work_118 rfl) ?_
  refine Eq.trans (q_iconst (x := 1) dX11_work_119 rfl) ?_
  refine Eq.trans (q_icmp_eq 128 dX11_work_120 rfl) (q_ite2 ?_ ?_)
  · rfl
  · refine Eq.trans (q_iload_n dX11_work_123 rfl) ?_
    refine Eq.trans (q_iconst (x := 2) dX11_work_124 rfl) ?_
    refine Eq.trans (q_icmp_ne 139 dX11_work_125 rfl) (q_ite2 ?_ ?_)
    · rfl
    · refine Eq.trans (q_iload_n dX11_work_139 rfl) ?_
      refine Eq.trans (q_iconst (x := 3) dX11_work_140 rfl) ?_
      refine Eq.trans (q_icmp_ne 151 dX11_work_141 rfl) (q_ite2 ?_ ?_)
      · refine Eq.trans (q_aload_n dX11_work_144 rfl rfl) ?_
        refine Eq.trans (q_getf dX11_work_145 mx_fld_11_31 (gf_47_16 _)) ?_
        refine Eq.trans (q_iload_n dX11_work_148 rfl) ?_
        refine Eq.trans (q_ld (w := 0) (by decide) dX11_work_149 (al_55 _ _)) (q_ite ?_)
        exact q_retI dX11_work_150 rfl
      · refine Eq.trans (q_iload_n dX11_work_151 rfl) ?_
        refine Eq.trans (q_iconst (x := 4) dX11_work_152 rfl) ?_
        refine Eq.trans (q_bipush (x := 10) dX11_work_153 rfl) ?_
        exact q_call1 (as := [.int v2, .int 4, .int 10]) (rest := []) dX11_work_155 mx_inv_11_84 rfl rfl ⟨Nat.le_of_ble_eq_true rfl, Nat.le_of_ble_eq_true rfl, (Nat.le_of_ble_eq_true rfl)⟩
theorem e_X11_work_128 (v1 : Int32) (v2 : Int32) (v3 : Int32) (v4 : Int32) (v5 : Int32) (v6 : Int32) (v7 : Int32) (h : mx_H)  : mx_D (3, mm_X11_work, 128, [.ref 47, .int v1, .int v2, .int v3, .int v4, .int v5, .int v6, .int v7, mx_junk, mx_junk, mx_junk], []) h = if v2 = 1 then mx_D (3, mm_X11_work, 138, [.ref 47, .int v1, .int v2, .int v3, .int v4, .int v5, .int v6, .int v7, mx_junk, mx_junk, mx_junk], [.int 1]) h else (mx_D (3, mm_X11_work, 138, [.ref 47, .int v1, .int v2, .int v3, .int v4, .int v5, .int v6, .int v7, mx_junk, mx_junk, mx_junk], [.int 0]) h) := by
  refine Eq.trans (q_iload_n dX11_work_128 rfl) ?_
  refine Eq.trans (q_iconst (x := 1) dX11_work_129 rfl) ?_
  refine Eq.trans (q_icmp_ne 137 dX11_work_130 rfl) (q_ite2 ?_ ?_)
  · refine Eq.trans (q_iconst (x := 1) dX11_work_133 rfl) ?_
    refine Eq.trans (q_goto 138 dX11_work_134 rfl) ?_
    rfl
  · refine Eq.trans (q_iconst (x := 0) dX11_work_137 rfl) ?_
    rfl
theorem e_X11_work_138 (v1 : Int32) (v2 : Int32) (v3 : Int32) (v4 : Int32) (v5 : Int32) (v6 : Int32) (v7 : Int32) (s0 : Int32) (h : mx_H)  : mx_D (3, mm_X11_work, 138, [.ref 47, .int v1, .int v2, .int v3, .int v4, .int v5, .int v6, .int v7, mx_junk, mx_junk, mx_junk], [.int s0]) h = some (some (.int s0), h) := by
  exact q_retI dX11_work_138 rfl
theorem e_X11_work_158 (v1 : Int32) (v2 : Int32) (v3 : Int32) (v4 : Int32) (v5 : Int32) (v6 : Int32) (v7 : Int32) (s0 : Int32) (h : mx_H)  : mx_D (3, mm_X11_work, 158, [.ref 47, .int v1, .int v2, .int v3, .int v4, .int v5, .int v6, .int v7, mx_junk, mx_junk, mx_junk], [.int s0]) h = if s0 = 0 then (mx_C mm_X11_in [.int v2, .int 25, .int 28] h).bind (fun o => mx_D (3, mm_X11_work, 169, [.ref 47, .int v1, .int v2, .int v3, .int v4, .int v5, .int v6, .int v7, mx_junk, mx_junk, mx_junk], o.1.toList ++ []) o.2) else (mx_D (3, mm_X11_work, 172, [.ref 47, .int v1, .int v2, .int v3, .int v4, .int v5, .int v6, .int v7, mx_junk, mx_junk, mx_junk], []) h) := by
  refine Eq.trans (q_if_ne 172 dX11_work_158 rfl) (q_ite2 ?_ ?_)
  · refine Eq.trans (q_iload_n dX11_work_161 rfl) ?_
    refine Eq.trans (q_bipush (x := 25) dX11_work_162 rfl) ?_
    refine Eq.trans (q_bipush (x := 28) dX11_work_164 rfl) ?_
    exact q_call1 (as := [.int v2, .int 25, .int 28]) (rest := []) dX11_work_166 mx_inv_11_84 rfl rfl ⟨Nat.le_of_ble_eq_true rfl, Nat.le_of_ble_eq_true rfl, (Nat.le_of_ble_eq_true rfl)⟩
  · rfl
theorem e_X11_work_169 (v1 : Int32) (v2 : Int32) (v3 : Int32) (v4 : Int32) (v5 : Int32) (v6 : Int32) (v7 : Int32) (s0 : Int32) (h : mx_H)  : mx_D (3, mm_X11_work, 169, [.ref 47, .int v1, .int v2, .int v3, .int v4, .int v5, .int v6, .int v7, mx_junk, mx_junk, mx_junk], [.int s0]) h = if s0 = 0 then if v2 = 11 then if v3 = 1 then mx_D (3, mm_X11_work, 208, [.ref 47, .int v1, .int v2, .int v3, .int v4, .int v5, .int v6, .int v7, mx_junk, mx_junk, mx_junk], [.int v4]) h else (mx_D (3, mm_X11_work, 208, [.ref 47, .int v1, .int v2, .int v3, .int v4, .int v5, .int v6, .int v7, mx_junk, mx_junk, mx_junk], [.int v5]) h) else (if v2 = 12 then some (some (.int (((1 <<< (v7 &&& 31)) - 1) - v3)), h) else (if v2 = 13 then some (some (.int ((-v3) &&& ((1 <<< (v7 &&& 31)) - 1))), h) else ((mx_C mm_X11_in [.int v2, .int 14, .int 24] h).bind (fun o => mx_D (3, mm_X11_work, 248, [.ref 47, .int v1, .int v2, .int v3, .int v4, .int v5, .int v6, .int v7, mx_junk, mx_junk, mx_junk], o.1.toList ++ []) o.2)))) else (mx_D (3, mm_X11_work, 172, [.ref 47, .int v1, .int v2, .int v3, .int v4, .int v5, .int v6, .int v7, mx_junk, mx_junk, mx_junk], []) h) := by
  refine Eq.trans (q_if_eq 190 dX11_work_169 rfl) (q_ite2 ?_ ?_)
  · refine Eq.trans (q_iload_n dX11_work_190 rfl) ?_
    refine Eq.trans (q_bipush (x := 11) dX11_work_191 rfl) ?_
    refine Eq.trans (q_icmp_ne 209 dX11_work_193 rfl) (q_ite2 ?_ ?_)
    · refine Eq.trans (q_iload_n dX11_work_196 rfl) ?_
      refine Eq.trans (q_iconst (x := 1) dX11_work_197 rfl) ?_
      refine Eq.trans (q_icmp_ne 206 dX11_work_198 rfl) (q_ite2 ?_ ?_)
      · refine Eq.trans (q_iload dX11_work_201 rfl) ?_
        refine Eq.trans (q_goto 208 dX11_work_203 rfl) ?_
        rfl
      · refine Eq.trans (q_iload dX11_work_206 rfl) ?_
        rfl
    · refine Eq.trans (q_iload_n dX11_work_209 rfl) ?_
      refine Eq.trans (q_bipush (x := 12) dX11_work_210 rfl) ?_
      refine Eq.trans (q_icmp_ne 224 dX11_work_212 rfl) (q_ite2 ?_ ?_)
      · refine Eq.trans (q_iconst (x := 1) dX11_work_215 rfl) ?_
        refine Eq.trans (q_iload dX11_work_216 rfl) ?_
        refine Eq.trans (q_ishl dX11_work_218) ?_
        refine Eq.trans (q_iconst (x := 1) dX11_work_219 rfl) ?_
        refine Eq.trans (q_isub dX11_work_220) ?_
        refine Eq.trans (q_iload_n dX11_work_221 rfl) ?_
        refine Eq.trans (q_isub dX11_work_222) ?_
        exact q_retI dX11_work_223 rfl
      · refine Eq.trans (q_iload_n dX11_work_224 rfl) ?_
        refine Eq.trans (q_bipush (x := 13) dX11_work_225 rfl) ?_
        refine Eq.trans (q_icmp_ne 240 dX11_work_227 rfl) (q_ite2 ?_ ?_)
        · refine Eq.trans (q_iload_n dX11_work_230 rfl) ?_
          refine Eq.trans (q_ineg dX11_work_231) ?_
          refine Eq.trans (q_iconst (x := 1) dX11_work_232 rfl) ?_
          refine Eq.trans (q_iload dX11_work_233 rfl) ?_
          refine Eq.trans (q_ishl dX11_work_235) ?_
          refine Eq.trans (q_iconst (x := 1) dX11_work_236 rfl) ?_
          refine Eq.trans (q_isub dX11_work_237) ?_
          refine Eq.trans (q_iand dX11_work_238) ?_
          exact q_retI dX11_work_239 rfl
        · refine Eq.trans (q_iload_n dX11_work_240 rfl) ?_
          refine Eq.trans (q_bipush (x := 14) dX11_work_241 rfl) ?_
          refine Eq.trans (q_bipush (x := 24) dX11_work_243 rfl) ?_
          exact q_call1 (as := [.int v2, .int 14, .int 24]) (rest := []) dX11_work_245 mx_inv_11_84 rfl rfl ⟨Nat.le_of_ble_eq_true rfl, Nat.le_of_ble_eq_true rfl, (Nat.le_of_ble_eq_true rfl)⟩
  · rfl
theorem e_X11_work_172 (v1 : Int32) (v2 : Int32) (v3 : Int32) (v4 : Int32) (v5 : Int32) (v6 : Int32) (v7 : Int32) (h : mx_H)  : mx_D (3, mm_X11_work, 172, [.ref 47, .int v1, .int v2, .int v3, .int v4, .int v5, .int v6, .int v7, mx_junk, mx_junk, mx_junk], []) h = (mx_C mm_X11_isTrue [.int v2, .int v3, .int v4, .int v6] h).bind (fun o => mx_D (3, mm_X11_work, 181, [.ref 47, .int v1, .int v2, .int v3, .int v4, .int v5, .int v6, .int v7, mx_junk, mx_junk, mx_junk], o.1.toList ++ []) o.2) := by
  refine Eq.trans (q_iload_n dX11_work_172 rfl) ?_
  refine Eq.trans (q_iload_n dX11_work_173 rfl) ?_
  refine Eq.trans (q_iload dX11_work_174 rfl) ?_
  refine Eq.trans (q_iload dX11_work_176 rfl) ?_
  exact q_call1 (as := [.int v2, .int v3, .int v4, .int v6]) (rest := []) dX11_work_178 mx_inv_11_338 rfl rfl ⟨Nat.le_of_ble_eq_true rfl, Nat.le_of_ble_eq_true rfl, (Nat.le_of_ble_eq_true rfl)⟩
theorem e_X11_work_181 (v1 : Int32) (v2 : Int32) (v3 : Int32) (v4 : Int32) (v5 : Int32) (v6 : Int32) (v7 : Int32) (s0 : Int32) (h : mx_H)  : mx_D (3, mm_X11_work, 181, [.ref 47, .int v1, .int v2, .int v3, .int v4, .int v5, .int v6, .int v7, mx_junk, mx_junk, mx_junk], [.int s0]) h = if s0 = 0 then mx_D (3, mm_X11_work, 189, [.ref 47, .int v1, .int v2, .int v3, .int v4, .int v5, .int v6, .int v7, mx_junk, mx_junk, mx_junk], [.int 0]) h else (mx_D (3, mm_X11_work, 189, [.ref 47, .int v1, .int v2, .int v3, .int v4, .int v5, .int v6, .int v7, mx_junk, mx_junk, mx_junk], [.int 1]) h) := by
  refine Eq.trans (q_if_eq 188 dX11_work_181 rfl) (q_ite2 ?_ ?_)
  · refine Eq.trans (q_iconst (x := 0) dX11_work_188 rfl) ?_
    rfl
  · refine Eq.trans (q_iconst (x := 1) dX11_work_184 rfl) ?_
    refine Eq.trans (q_goto 189 dX11_work_185 rfl) ?_
    rfl
theorem e_X11_work_189 (v1 : Int32) (v2 : Int32) (v3 : Int32) (v4 : Int32) (v5 : Int32) (v6 : Int32) (v7 : Int32) (s0 : Int32) (h : mx_H)  : mx_D (3, mm_X11_work, 189, [.ref 47, .int v1, .int v2, .int v3, .int v4, .int v5, .int v6, .int v7, mx_junk, mx_junk, mx_junk], [.int s0]) h = some (some (.int s0), h) := by
  exact q_retI dX11_work_189 rfl
theorem e_X11_work_208 (v1 : Int32) (v2 : Int32) (v3 : Int32) (v4 : Int32) (v5 : Int32) (v6 : Int32) (v7 : Int32) (s0 : Int32) (h : mx_H)  : mx_D (3, mm_X11_work, 208, [.ref 47, .int v1, .int v2, .int v3, .int v4, .int v5, .int v6, .int v7, mx_junk, mx_junk, mx_junk], [.int s0]) h = some (some (.int s0), h) := by
  exact q_retI dX11_work_208 rfl
theorem e_X11_work_248 (v1 : Int32) (v2 : Int32) (v3 : Int32) (v4 : Int32) (v5 : Int32) (v6 : Int32) (v7 : Int32) (s0 : Int32) (h : mx_H)  : mx_D (3, mm_X11_work, 248, [.ref 47, .int v1, .int v2, .int v3, .int v4, .int v5, .int v6, .int v7, mx_junk, mx_junk, mx_junk], [.int s0]) h = if s0 = 0 then if v2 = 29 then if mx_in v1 130 = true then if mx_in (h.1 52 v1.toNatClampNeg) 130 = true then some (some (.int ((v3 <<< ((h.1 50 ((h.1 52 v1.toNatClampNeg).toNatClampNeg)) &&& 31)) + v4)), h) else none else none else (if v2 = 30 then if mx_in v1 130 = true then some (some (.int ((v3 >>> ((h.1 55 v1.toNatClampNeg) &&& 31)) &&& ((1 <<< (v7 &&& 31)) - 1))), h) else none else (if v2 = 31 then some (some (.int v3), h) else (if v2 = 32 then (mx_C mm_X11_sign [.int v3, .int v6] h).bind (fun o => mx_D (3, mm_X11_work, 326, [.ref 47, .int v1, .int v2, .int v3, .int v4, .int v5, .int v6, .int v7, mx_junk, mx_junk, mx_junk], o.1.toList ++ []) o.2) else (if v2 = 33 then if v4 = 0 then mx_D (3, mm_X11_work, 366, [.ref 47, .int v1, .int v2, .int v3, .int v4, .int v5, .int v6, .int v7, .int (v6 - 4), mx_junk, mx_junk], [.int (v3 &&& ((1 <<< ((v6 - 4) &&& 31)) - 1))]) h else (mx_D (3, mm_X11_work, 366, [.ref 47, .int v1, .int v2, .int v3, .int v4, .int v5, .int v6, .int v7, .int (v6 - 4), mx_junk, mx_junk], [.int (v3 >>> ((v6 - 4) &&& 31))]) h) else (if v4 = 0 then mx_D (3, mm_X11_work, 385, [.ref 47, .int v1, .int v2, .int v3, .int v4, .int v5, .int v6, .int v7, .int (v6 - 4), mx_junk, mx_junk], [.int v5]) h else (mx_D (3, mm_X11_work, 385, [.ref 47, .int v1, .int v2, .int v3, .int v4, .int v5, .int v6, .int v7, .int (v6 - 4), mx_junk, mx_junk], [.int (v3 &&& ((1 <<< ((v6 - 4) &&& 31)) - 1))]) h)))))) else ((mx_C mm_X11_onWords [.int v2, .int v3, .int v4, .int v7] h).bind (fun o => mx_D (3, mm_X11_work, 260, [.ref 47, .int v1, .int v2, .int v3, .int v4, .int v5, .int v6, .int v7, mx_junk, mx_junk, mx_junk], o.1.toList ++ []) o.2)) := by
  refine Eq.trans (q_if_eq 261 dX11_work_248 rfl) (q_ite2 ?_ ?_)
  · refine Eq.trans (q_iload_n dX11_work_261 rfl) ?_
    refine Eq.trans (q_bipush (x := 29) dX11_work_262 rfl) ?_
    refine Eq.trans (q_icmp_ne 284 dX11_work_264 rfl) (q_ite2 ?_ ?_)
    · refine Eq.trans (q_iload_n dX11_work_267 rfl) ?_
      refine Eq.trans (q_aload_n dX11_work_268 rfl rfl) ?_
      refine Eq.trans (q_getf dX11_work_269 mx_fld_11_16 (gf_47_11 _)) ?_
      refine Eq.trans (q_aload_n dX11_work_272 rfl rfl) ?_
      refine Eq.trans (q_getf dX11_work_273 mx_fld_11_22 (gf_47_13 _)) ?_
      refine Eq.trans (q_iload_n dX11_work_276 rfl) ?_
      refine Eq.trans (q_ld (w := 0) (by decide) dX11_work_277 (al_52 _ _)) (q_ite ?_)
      refine Eq.trans (q_ld (w := 0) (by decide) dX11_work_278 (al_50 _ _)) (q_ite ?_)
      refine Eq.trans (q_ishl dX11_work_279) ?_
      refine Eq.trans (q_iload dX11_work_280 rfl) ?_
      refine Eq.trans (q_iadd dX11_work_282) ?_
      exact q_retI dX11_work_283 rfl
    · refine Eq.trans (q_iload_n dX11_work_284 rfl) ?_
      refine Eq.trans (q_bipush (x := 30) dX11_work_285 rfl) ?_
      refine Eq.trans (q_icmp_ne 306 dX11_work_287 rfl) (q_ite2 ?_ ?_)
      · refine Eq.trans (q_iload_n dX11_work_290 rfl) ?_
        refine Eq.trans (q_aload_n dX11_work_291 rfl rfl) ?_
        refine Eq.trans (q_getf dX11_work_292 mx_fld_11_31 (gf_47_16 _)) ?_
        refine Eq.trans (q_iload_n dX11_work_295 rfl) ?_
        refine Eq.trans (q_ld (w := 0) (by decide) dX11_work_296 (al_55 _ _)) (q_ite ?_)
        refine Eq.trans (q_ishr dX11_work_297) ?_
        refine Eq.trans (q_iconst (x := 1) dX11_work_298 rfl) ?_
        refine Eq.trans (q_iload dX11_work_299 rfl) ?_
        refine Eq.trans (q_ishl dX11_work_301) ?_
        refine Eq.trans (q_iconst (x := 1) dX11_work_302 rfl) ?_
        refine Eq.trans (q_isub dX11_work_303) ?_
        refine Eq.trans (q_iand dX11_work_304) ?_
        exact q_retI dX11_work_305 rfl
      · refine Eq.trans (q_iload_n dX11_work_306 rfl) ?_
        refine Eq.trans (q_bipush (x := 31) dX11_work_307 rfl) ?_
        refine Eq.trans (q_icmp_ne 314 dX11_work_309 rfl) (q_ite2 ?_ ?_)
        · refine Eq.trans (q_iload_n dX11_work_312 rfl) ?_
          exact q_retI dX11_work_313 rfl
        · refine Eq.trans (q_iload_n dX11_work_314 rfl) ?_
          refine Eq.trans (q_bipush (x := 32) dX11_work_315 rfl) ?_
          refine Eq.trans (q_icmp_ne 334 dX11_work_317 rfl) (q_ite2 ?_ ?_)
          · refine Eq.trans (q_iload_n dX11_work_320 rfl) ?_
            refine Eq.trans (q_iload dX11_work_321 rfl) ?_
            exact q_call1 (as := [.int v3, .int v6]) (rest := []) dX11_work_323 mx_inv_11_335 rfl rfl ⟨Nat.le_of_ble_eq_true rfl, Nat.le_of_ble_eq_true rfl, (Nat.le_of_ble_eq_true rfl)⟩
          · refine Eq.trans (q_iload dX11_work_334 rfl) ?_
            refine Eq.trans (q_iconst (x := 4) dX11_work_336 rfl) ?_
            refine Eq.trans (q_isub dX11_work_337) ?_
            refine Eq.trans (q_istore (L' := [.ref 47, .int v1, .int v2, .int v3, .int v4, .int v5, .int v6, .int v7, .int (v6 - 4), mx_junk, mx_junk]) dX11_work_338 (Nat.le_of_ble_eq_true rfl) rfl) ?_
            refine Eq.trans (q_iload_n dX11_work_340 rfl) ?_
            refine Eq.trans (q_bipush (x := 33) dX11_work_341 rfl) ?_
            refine Eq.trans (q_icmp_ne 367 dX11_work_343 rfl) (q_ite2 ?_ ?_)
            · refine Eq.trans (q_iload dX11_work_346 rfl) ?_
              refine Eq.trans (q_if_ne 362 dX11_work_348 rfl) (q_ite2 ?_ ?_)
              · refine Eq.trans (q_iload_n dX11_work_351 rfl) ?_
                refine Eq.trans (q_iconst (x := 1) dX11_work_352 rfl) ?_
                refine Eq.trans (q_iload dX11_work_353 rfl) ?_
                refine Eq.trans (q_ishl dX11_work_355) ?_
                refine Eq.trans (q_iconst (x := 1) dX11_work_356 rfl) ?_
                refine Eq.trans (q_isub dX11_work_357) ?_
                refine Eq.trans (q_iand dX11_work_358) ?_
                refine Eq.trans (q_goto 366 dX11_work_359 rfl) ?_
                rfl
              · refine Eq.trans (q_iload_n dX11_work_362 rfl) ?_
                refine Eq.trans (q_iload dX11_work_363 rfl) ?_
                refine Eq.trans (q_ishr dX11_work_365) ?_
                rfl
            · refine Eq.trans (q_iload dX11_work_367 rfl) ?_
              refine Eq.trans (q_if_ne 377 dX11_work_369 rfl) (q_ite2 ?_ ?_)
              · refine Eq.trans (q_iload dX11_work_372 rfl) ?_
                refine Eq.trans (q_goto 385 dX11_work_374 rfl) ?_
                rfl
              · refine Eq.trans (q_iload_n dX11_work_377 rfl) ?_
                refine Eq.trans (q_iconst (x := 1) dX11_work_378 rfl) ?_
                refine Eq.trans (q_iload dX11_work_379 rfl) ?_
                refine Eq.trans (q_ishl dX11_work_381) ?_
                refine Eq.trans (q_iconst (x := 1) dX11_work_382 rfl) ?_
                refine Eq.trans (q_isub dX11_work_383) ?_
                refine Eq.trans (q_iand dX11_work_384) ?_
                rfl
  · refine Eq.trans (q_iload_n dX11_work_251 rfl) ?_
    refine Eq.trans (q_iload_n dX11_work_252 rfl) ?_
    refine Eq.trans (q_iload dX11_work_253 rfl) ?_
    refine Eq.trans (q_iload dX11_work_255 rfl) ?_
    exact q_call1 (as := [.int v2, .int v3, .int v4, .int v7]) (rest := []) dX11_work_257 mx_inv_11_342 rfl rfl ⟨Nat.le_of_ble_eq_true rfl, Nat.le_of_ble_eq_true rfl, (Nat.le_of_ble_eq_true rfl)⟩
theorem e_X11_work_260 (v1 : Int32) (v2 : Int32) (v3 : Int32) (v4 : Int32) (v5 : Int32) (v6 : Int32) (v7 : Int32) (s0 : Int32) (h : mx_H)  : mx_D (3, mm_X11_work, 260, [.ref 47, .int v1, .int v2, .int v3, .int v4, .int v5, .int v6, .int v7, mx_junk, mx_junk, mx_junk], [.int s0]) h = some (some (.int s0), h) := by
  exact q_retI dX11_work_260 rfl
theorem e_X11_work_326 (v1 : Int32) (v2 : Int32) (v3 : Int32) (v4 : Int32) (v5 : Int32) (v6 : Int32) (v7 : Int32) (s0 : Int32) (h : mx_H)  : mx_D (3, mm_X11_work, 326, [.ref 47, .int v1, .int v2, .int v3, .int v4, .int v5, .int v6, .int v7, mx_junk, mx_junk, mx_junk], [.int s0]) h = some (some (.int (s0 &&& ((1 <<< (v7 &&& 31)) - 1))), h) := by
  refine Eq.trans (q_iconst (x := 1) dX11_work_326 rfl) ?_
  refine Eq.trans (q_iload dX11_work_327 rfl) ?_
  refine Eq.trans (q_ishl dX11_work_329) ?_
  refine Eq.trans (q_iconst (x := 1) dX11_work_330 rfl) ?_
  refine Eq.trans (q_isub dX11_work_331) ?_
  refine Eq.trans (q_iand dX11_work_332) ?_
  exact q_retI dX11_work_333 rfl
theorem e_X11_work_366 (v1 : Int32) (v2 : Int32) (v3 : Int32) (v4 : Int32) (v5 : Int32) (v6 : Int32) (v7 : Int32) (v8 : Int32) (s0 : Int32) (h : mx_H)  : mx_D (3, mm_X11_work, 366, [.ref 47, .int v1, .int v2, .int v3, .int v4, .int v5, .int v6, .int v7, .int v8, mx_junk, mx_junk], [.int s0]) h = some (some (.int s0), h) := by
  exact q_retI dX11_work_366 rfl
theorem e_X11_work_385 (v1 : Int32) (v2 : Int32) (v3 : Int32) (v4 : Int32) (v5 : Int32) (v6 : Int32) (v7 : Int32) (v8 : Int32) (s0 : Int32) (h : mx_H)  : mx_D (3, mm_X11_work, 385, [.ref 47, .int v1, .int v2, .int v3, .int v4, .int v5, .int v6, .int v7, .int v8, mx_junk, mx_junk], [.int s0]) h = if v4 = 1 then mx_D (3, mm_X11_work, 402, [.ref 47, .int v1, .int v2, .int v3, .int v4, .int v5, .int v6, .int v7, .int v8, .int s0, mx_junk], [.int v5]) h else (mx_D (3, mm_X11_work, 402, [.ref 47, .int v1, .int v2, .int v3, .int v4, .int v5, .int v6, .int v7, .int v8, .int s0, mx_junk], [.int (v3 >>> (v8 &&& 31))]) h) := by
  refine Eq.trans (q_istore (L' := [.ref 47, .int v1, .int v2, .int v3, .int v4, .int v5, .int v6, .int v7, .int v8, .int s0, mx_junk]) dX11_work_385 (Nat.le_of_ble_eq_true rfl) rfl) ?_
  refine Eq.trans (q_iload dX11_work_387 rfl) ?_
  refine Eq.trans (q_iconst (x := 1) dX11_work_389 rfl) ?_
  refine Eq.trans (q_icmp_ne 398 dX11_work_390 rfl) (q_ite2 ?_ ?_)
  · refine Eq.trans (q_iload dX11_work_393 rfl) ?_
    refine Eq.trans (q_goto 402 dX11_work_395 rfl) ?_
    rfl
  · refine Eq.trans (q_iload_n dX11_work_398 rfl) ?_
    refine Eq.trans (q_iload dX11_work_399 rfl) ?_
    refine Eq.trans (q_ishr dX11_work_401) ?_
    rfl
theorem e_X11_work_402 (v1 : Int32) (v2 : Int32) (v3 : Int32) (v4 : Int32) (v5 : Int32) (v6 : Int32) (v7 : Int32) (v8 : Int32) (v9 : Int32) (s0 : Int32) (h : mx_H)  : mx_D (3, mm_X11_work, 402, [.ref 47, .int v1, .int v2, .int v3, .int v4, .int v5, .int v6, .int v7, .int v8, .int v9, mx_junk], [.int s0]) h = some (some (.int (v9 + (s0 <<< (v8 &&& 31)))), h) := by
  refine Eq.trans (q_istore (L' := [.ref 47, .int v1, .int v2, .int v3, .int v4, .int v5, .int v6, .int v7, .int v8, .int v9, .int s0]) dX11_work_402 (Nat.le_of_ble_eq_true rfl) rfl) ?_
  refine Eq.trans (q_iload dX11_work_404 rfl) ?_
  refine Eq.trans (q_iload dX11_work_406 rfl) ?_
  refine Eq.trans (q_iload dX11_work_408 rfl) ?_
  refine Eq.trans (q_ishl dX11_work_410) ?_
  refine Eq.trans (q_iadd dX11_work_411) ?_
  exact q_retI dX11_work_412 rfl
theorem e_X11_workAll_0  (h : mx_H)  : mx_D (4, mm_X11_workAll, 0, [.ref 47, mx_junk], []) h = mx_D (4, mm_X11_workAll, 2, [.ref 47, .int 0], []) h := by
  refine Eq.trans (q_iconst (x := 0) dX11_workAll_0 rfl) ?_
  refine Eq.trans (q_istore_n (L' := [.ref 47, .int 0]) dX11_workAll_1 (Nat.le_of_ble_eq_true rfl) rfl) ?_
  rfl
theorem c_X11_workAll  (h : mx_H) : mx_C mm_X11_workAll [.ref 47] h = mx_D (4, mm_X11_workAll, 0, [.ref 47, mx_junk], []) h := rfl
theorem e_X11_workAll_2 (v1 : Int32) (h : mx_H)  : mx_D (4, mm_X11_workAll, 2, [.ref 47, .int v1], []) h = if (h.1 47 8) ≤ v1 then some (none, h) else (if mx_in v1 130 = true then if (h.1 49 v1.toNatClampNeg) = 0 then mx_D (4, mm_X11_workAll, 30, [.ref 47, .int v1], []) h else ((mx_C mm_X11_work [.ref 47, .int v1] h).bind (fun o => mx_D (4, mm_X11_workAll, 29, [.ref 47, .int v1], o.1.toList ++ [.int v1, .ref 68]) o.2)) else none) := by
  refine Eq.trans (q_iload_n dX11_workAll_2 rfl) ?_
  refine Eq.trans (q_aload_n dX11_workAll_3 rfl rfl) ?_
  refine Eq.trans (q_getf dX11_workAll_4 mx_fld_11_326 (gf_47_8 _)) ?_
  refine Eq.trans (q_icmp_ge 36 dX11_workAll_7 rfl) (q_ite2 ?_ ?_)
  · exact q_retV dX11_workAll_36 rfl
  · refine Eq.trans (q_aload_n dX11_workAll_10 rfl rfl) ?_
    refine Eq.trans (q_getf dX11_workAll_11 mx_fld_11_13 (gf_47_10 _)) ?_
    refine Eq.trans (q_iload_n dX11_workAll_14 rfl) ?_
    refine Eq.trans (q_ld (w := 0) (by decide) dX11_workAll_15 (al_49 _ _)) (q_ite ?_)
    refine Eq.trans (q_if_eq 30 dX11_workAll_16 rfl) (q_ite2 ?_ ?_)
    · rfl
    · refine Eq.trans (q_aload_n dX11_workAll_19 rfl rfl) ?_
      refine Eq.trans (q_getf dX11_workAll_20 mx_fld_11_71 (gf_47_36 _)) ?_
      refine Eq.trans (q_iload_n dX11_workAll_23 rfl) ?_
      refine Eq.trans (q_aload_n dX11_workAll_24 rfl rfl) ?_
      refine Eq.trans (q_iload_n dX11_workAll_25 rfl) ?_
      exact q_call0 (as := [.int v1]) (rest := [.int v1, .ref 68]) dX11_workAll_26 mx_inv_11_346 rfl rfl rfl ⟨Nat.le_of_ble_eq_true rfl, Nat.le_of_ble_eq_true rfl, (Nat.le_of_ble_eq_true rfl)⟩
theorem e_X11_workAll_29 (v1 : Int32) (s1 : Int32) (s2 : Int32) (h : mx_H)  : mx_D (4, mm_X11_workAll, 29, [.ref 47, .int v1], [.int s2, .int s1, .ref 68]) h = if mx_in s1 130 = true then mx_D (4, mm_X11_workAll, 30, [.ref 47, .int v1], []) ((mx_u h.1 68 s1.toNatClampNeg s2), h.2.1, h.2.2) else none := by
  refine Eq.trans (q_st (w := 0) (by decide) dX11_workAll_29 (as_68 _ _ _)) (q_ite ?_)
  rfl
theorem e_X11_workAll_30 (v1 : Int32) (h : mx_H)  : mx_D (4, mm_X11_workAll, 30, [.ref 47, .int v1], []) h = mx_D (4, mm_X11_workAll, 2, [.ref 47, .int (v1 + 1)], []) h := by
  refine Eq.trans (q_iinc (x' := 1) (L' := [.ref 47, .int (v1 + 1)]) dX11_workAll_30 rfl rfl rfl) ?_
  refine Eq.trans (q_goto 2 dX11_workAll_33 rfl) ?_
  rfl
theorem e_X11_holds_0 (v1 : Int32) (v2 : Int32) (h : mx_H)  : mx_D (5, mm_X11_holds, 0, [.ref 47, .int v1, .int v2, mx_junk, mx_junk, mx_junk], []) h = (mx_C mm_X11_in [.int v1, .int 0, .int ((h.1 47 31) - 1)] h).bind (fun o => mx_D (5, mm_X11_holds, 11, [.ref 47, .int v1, .int v2, mx_junk, mx_junk, mx_junk], o.1.toList ++ []) o.2) := by
  refine Eq.trans (q_iload_n dX11_holds_0 rfl) ?_
  refine Eq.trans (q_iconst (x := 0) dX11_holds_1 rfl) ?_
  refine Eq.trans (q_aload_n dX11_holds_2 rfl rfl) ?_
  refine Eq.trans (q_getf dX11_holds_3 mx_fld_11_302 (gf_47_31 _)) ?_
  refine Eq.trans (q_iconst (x := 1) dX11_holds_6 rfl) ?_
  refine Eq.trans (q_isub dX11_holds_7) ?_
  exact q_call1 (as := [.int v1, .int 0, .int ((h.1 47 31) - 1)]) (rest := []) dX11_holds_8 mx_inv_11_84 rfl rfl ⟨Nat.le_of_ble_eq_true rfl, Nat.le_of_ble_eq_true rfl, (Nat.le_of_ble_eq_true rfl)⟩
theorem c_X11_holds (v1 : Int32) (v2 : Int32) (h : mx_H) : mx_C mm_X11_holds [.ref 47, .int v1, .int v2] h = mx_D (5, mm_X11_holds, 0, [.ref 47, .int v1, .int v2, mx_junk, mx_junk, mx_junk], []) h := rfl
theorem e_X11_holds_11 (v1 : Int32) (v2 : Int32) (s0 : Int32) (h : mx_H)  : mx_D (5, mm_X11_holds, 11, [.ref 47, .int v1, .int v2, mx_junk, mx_junk, mx_junk], [.int s0]) h = if s0 = 0 then some (some (.int ((-1))), h) else (mx_D (5, mm_X11_holds, 21, [.ref 47, .int v1, .int v2, .int v2, .int 0, mx_junk], []) h) := by
  refine Eq.trans (q_if_ne 16 dX11_holds_11 rfl) (q_ite2 ?_ ?_)
  · refine Eq.trans (q_iconst (x := (-1)) dX11_holds_14 rfl) ?_
    exact q_retI dX11_holds_15 rfl
  · refine Eq.trans (q_iload_n dX11_holds_16 rfl) ?_
    refine Eq.trans (q_istore_n (L' := [.ref 47, .int v1, .int v2, .int v2, mx_junk, mx_junk]) dX11_holds_17 (Nat.le_of_ble_eq_true rfl) rfl) ?_
    refine Eq.trans (q_iconst (x := 0) dX11_holds_18 rfl) ?_
    refine Eq.trans (q_istore (L' := [.ref 47, .int v1, .int v2, .int v2, .int 0, mx_junk]) dX11_holds_19 (Nat.le_of_ble_eq_true rfl) rfl) ?_
    rfl
theorem e_X11_holds_21 (v1 : Int32) (v2 : Int32) (v3 : Int32) (v4 : Int32) (v5 : Value) (h : mx_H)  : mx_D (5, mm_X11_holds, 21, [.ref 47, .int v1, .int v2, .int v3, .int v4, v5], []) h = if (h.1 47 28) ≤ v4 then (mx_C mm_X11_workAll [.ref 47] h).bind (fun o => mx_D (5, mm_X11_holds, 82, [.ref 47, .int v1, .int v2, .int v3, .int v4, v5], o.1.toList ++ []) o.2) else (if mx_in v4 12 = true then if mx_in (h.1 64 v4.toNatClampNeg) 130 = true then (mx_C mm_X11_bitsOf [.int (h.1 50 ((h.1 64 v4.toNatClampNeg).toNatClampNeg))] h).bind (fun o => mx_D (5, mm_X11_holds, 45, [.ref 47, .int v1, .int v2, .int v3, .int v4, v5], o.1.toList ++ []) o.2) else none else none) := by
  refine Eq.trans (q_iload dX11_holds_21 rfl) ?_
  refine Eq.trans (q_aload_n dX11_holds_23 rfl rfl) ?_
  refine Eq.trans (q_getf dX11_holds_24 mx_fld_11_228 (gf_47_28 _)) ?_
  refine Eq.trans (q_icmp_ge 78 dX11_holds_27 rfl) (q_ite2 ?_ ?_)
  · refine Eq.trans (q_aload_n dX11_holds_78 rfl rfl) ?_
    exact q_call0 (as := []) (rest := []) dX11_holds_79 mx_inv_11_349 rfl rfl rfl ⟨Nat.le_of_ble_eq_true rfl, Nat.le_of_ble_eq_true rfl, (Nat.le_of_ble_eq_true rfl)⟩
  · refine Eq.trans (q_aload_n dX11_holds_30 rfl rfl) ?_
    refine Eq.trans (q_getf dX11_holds_31 mx_fld_11_16 (gf_47_11 _)) ?_
    refine Eq.trans (q_aload_n dX11_holds_34 rfl rfl) ?_
    refine Eq.trans (q_getf dX11_holds_35 mx_fld_11_59 (gf_47_30 _)) ?_
    refine Eq.trans (q_iload dX11_holds_38 rfl) ?_
    refine Eq.trans (q_ld (w := 0) (by decide) dX11_holds_40 (al_64 _ _)) (q_ite ?_)
    refine Eq.trans (q_ld (w := 0) (by decide) dX11_holds_41 (al_50 _ _)) (q_ite ?_)
    exact q_call1 (as := [.int (h.1 50 ((h.1 64 v4.toNatClampNeg).toNatClampNeg))]) (rest := []) dX11_holds_42 mx_inv_11_278 rfl rfl ⟨Nat.le_of_ble_eq_true rfl, Nat.le_of_ble_eq_true rfl, (Nat.le_of_ble_eq_true rfl)⟩
theorem e_X11_holds_45 (v1 : Int32) (v2 : Int32) (v3 : Int32) (v4 : Int32) (v5 : Value) (s0 : Int32) (h : mx_H)  : mx_D (5, mm_X11_holds, 45, [.ref 47, .int v1, .int v2, .int v3, .int v4, v5], [.int s0]) h = if mx_in v4 12 = true then if mx_in (h.1 64 v4.toNatClampNeg) 130 = true then mx_D (5, mm_X11_holds, 21, [.ref 47, .int v1, .int v2, .int (v3 >>> (s0 &&& 31)), .int (v4 + 1), .int s0], []) ((mx_u h.1 68 ((h.1 64 v4.toNatClampNeg).toNatClampNeg) (v3 &&& ((1 <<< (s0 &&& 31)) - 1))), h.2.1, h.2.2) else none else none := by
  refine Eq.trans (q_istore (L' := [.ref 47, .int v1, .int v2, .int v3, .int v4, .int s0]) dX11_holds_45 (Nat.le_of_ble_eq_true rfl) rfl) ?_
  refine Eq.trans (q_aload_n dX11_holds_47 rfl rfl) ?_
  refine Eq.trans (q_getf dX11_holds_48 mx_fld_11_71 (gf_47_36 _)) ?_
  refine Eq.trans (q_aload_n dX11_holds_51 rfl rfl) ?_
  refine Eq.trans (q_getf dX11_holds_52 mx_fld_11_59 (gf_47_30 _)) ?_
  refine Eq.trans (q_iload dX11_holds_55 rfl) ?_
  refine Eq.trans (q_ld (w := 0) (by decide) dX11_holds_57 (al_64 _ _)) (q_ite ?_)
  refine Eq.trans (q_iload_n dX11_holds_58 rfl) ?_
  refine Eq.trans (q_iconst (x := 1) dX11_holds_59 rfl) ?_
  refine Eq.trans (q_iload dX11_holds_60 rfl) ?_
  refine Eq.trans (q_ishl dX11_holds_62) ?_
  refine Eq.trans (q_iconst (x := 1) dX11_holds_63 rfl) ?_
  refine Eq.trans (q_isub dX11_holds_64) ?_
  refine Eq.trans (q_iand dX11_holds_65) ?_
  refine Eq.trans (q_st (w := 0) (by decide) dX11_holds_66 (as_68 _ _ _)) (q_ite ?_)
  refine Eq.trans (q_iload_n dX11_holds_67 rfl) ?_
  refine Eq.trans (q_iload dX11_holds_68 rfl) ?_
  refine Eq.trans (q_ishr dX11_holds_70) ?_
  refine Eq.trans (q_istore_n (L' := [.ref 47, .int v1, .int v2, .int (v3 >>> (s0 &&& 31)), .int v4, .int s0]) dX11_holds_71 (Nat.le_of_ble_eq_true rfl) rfl) ?_
  refine Eq.trans (q_iinc (x' := 1) (L' := [.ref 47, .int v1, .int v2, .int (v3 >>> (s0 &&& 31)), .int (v4 + 1), .int s0]) dX11_holds_72 rfl rfl rfl) ?_
  refine Eq.trans (q_goto 21 dX11_holds_75 rfl) ?_
  rfl
theorem e_X11_holds_82 (v1 : Int32) (v2 : Int32) (v3 : Int32) (v4 : Int32) (v5 : Value) (h : mx_H)  : mx_D (5, mm_X11_holds, 82, [.ref 47, .int v1, .int v2, .int v3, .int v4, v5], []) h = if mx_in v1 12 = true then if mx_in (h.1 65 v1.toNatClampNeg) 130 = true then some (some (.int (h.1 68 ((h.1 65 v1.toNatClampNeg).toNatClampNeg))), h) else none else none := by
  refine Eq.trans (q_aload_n dX11_holds_82 rfl rfl) ?_
  refine Eq.trans (q_getf dX11_holds_83 mx_fld_11_71 (gf_47_36 _)) ?_
  refine Eq.trans (q_aload_n dX11_holds_86 rfl rfl) ?_
  refine Eq.trans (q_getf dX11_holds_87 mx_fld_11_62 (gf_47_32 _)) ?_
  refine Eq.trans (q_iload_n dX11_holds_90 rfl) ?_
  refine Eq.trans (q_ld (w := 0) (by decide) dX11_holds_91 (al_65 _ _)) (q_ite ?_)
  refine Eq.trans (q_ld (w := 0) (by decide) dX11_holds_92 (al_68 _ _)) (q_ite ?_)
  exact q_retI dX11_holds_93 rfl
theorem e_X11_deal_0 (v1 : Int32) (v2 : Int32) (h : mx_H)  : mx_D (2, mm_X11_deal, 0, [.ref 47, .int v1, .int v2, mx_junk, mx_junk, mx_junk], []) h = mx_D (2, mm_X11_deal, 5, [.ref 47, .int v1, .int v2, .int v2, .int 0, mx_junk], []) h := by
  refine Eq.trans (q_iload_n dX11_deal_0 rfl) ?_
  refine Eq.trans (q_istore_n (L' := [.ref 47, .int v1, .int v2, .int v2, mx_junk, mx_junk]) dX11_deal_1 (Nat.le_of_ble_eq_true rfl) rfl) ?_
  refine Eq.trans (q_iconst (x := 0) dX11_deal_2 rfl) ?_
  refine Eq.trans (q_istore (L' := [.ref 47, .int v1, .int v2, .int v2, .int 0, mx_junk]) dX11_deal_3 (Nat.le_of_ble_eq_true rfl) rfl) ?_
  rfl
theorem c_X11_deal (v1 : Int32) (v2 : Int32) (h : mx_H) : mx_C mm_X11_deal [.ref 47, .int v1, .int v2] h = mx_D (2, mm_X11_deal, 0, [.ref 47, .int v1, .int v2, mx_junk, mx_junk, mx_junk], []) h := rfl
theorem e_X11_deal_5 (v1 : Int32) (v2 : Int32) (v3 : Int32) (v4 : Int32) (v5 : Value) (h : mx_H)  : mx_D (2, mm_X11_deal, 5, [.ref 47, .int v1, .int v2, .int v3, .int v4, v5], []) h = if (h.1 47 28) ≤ v4 then some (none, h) else (if mx_in v4 12 = true then if mx_in (h.1 64 v4.toNatClampNeg) 130 = true then (mx_C mm_X11_bitsOf [.int (h.1 50 ((h.1 64 v4.toNatClampNeg).toNatClampNeg))] h).bind (fun o => mx_D (2, mm_X11_deal, 29, [.ref 47, .int v1, .int v2, .int v3, .int v4, v5], o.1.toList ++ []) o.2) else none else none) := by
  refine Eq.trans (q_iload dX11_deal_5 rfl) ?_
  refine Eq.trans (q_aload_n dX11_deal_7 rfl rfl) ?_
  refine Eq.trans (q_getf dX11_deal_8 mx_fld_11_228 (gf_47_28 _)) ?_
  refine Eq.trans (q_icmp_ge 64 dX11_deal_11 rfl) (q_ite2 ?_ ?_)
  · exact q_retV dX11_deal_64 rfl
  · refine Eq.trans (q_aload_n dX11_deal_14 rfl rfl) ?_
    refine Eq.trans (q_getf dX11_deal_15 mx_fld_11_16 (gf_47_11 _)) ?_
    refine Eq.trans (q_aload_n dX11_deal_18 rfl rfl) ?_
    refine Eq.trans (q_getf dX11_deal_19 mx_fld_11_59 (gf_47_30 _)) ?_
    refine Eq.trans (q_iload dX11_deal_22 rfl) ?_
    refine Eq.trans (q_ld (w := 0) (by decide) dX11_deal_24 (al_64 _ _)) (q_ite ?_)
    refine Eq.trans (q_ld (w := 0) (by decide) dX11_deal_25 (al_50 _ _)) (q_ite ?_)
    exact q_call1 (as := [.int (h.1 50 ((h.1 64 v4.toNatClampNeg).toNatClampNeg))]) (rest := []) dX11_deal_26 mx_inv_11_278 rfl rfl ⟨Nat.le_of_ble_eq_true rfl, Nat.le_of_ble_eq_true rfl, (Nat.le_of_ble_eq_true rfl)⟩
theorem e_X11_deal_29 (v1 : Int32) (v2 : Int32) (v3 : Int32) (v4 : Int32) (v5 : Value) (s0 : Int32) (h : mx_H)  : mx_D (2, mm_X11_deal, 29, [.ref 47, .int v1, .int v2, .int v3, .int v4, v5], [.int s0]) h = if mx_in v4 12 = true then if mx_in (h.1 64 v4.toNatClampNeg) 130 = true then mx_D (2, mm_X11_deal, 5, [.ref 47, .int v1, .int v2, .int (v3 - s0), .int (v4 + 1), .int s0], []) ((mx_u h.1 68 ((h.1 64 v4.toNatClampNeg).toNatClampNeg) ((v1 >>> ((v3 - s0) &&& 31)) &&& ((1 <<< (s0 &&& 31)) - 1))), h.2.1, h.2.2) else none else none := by
  refine Eq.trans (q_istore (L' := [.ref 47, .int v1, .int v2, .int v3, .int v4, .int s0]) dX11_deal_29 (Nat.le_of_ble_eq_true rfl) rfl) ?_
  refine Eq.trans (q_iload_n dX11_deal_31 rfl) ?_
  refine Eq.trans (q_iload dX11_deal_32 rfl) ?_
  refine Eq.trans (q_isub dX11_deal_34) ?_
  refine Eq.trans (q_istore_n (L' := [.ref 47, .int v1, .int v2, .int (v3 - s0), .int v4, .int s0]) dX11_deal_35 (Nat.le_of_ble_eq_true rfl) rfl) ?_
  refine Eq.trans (q_aload_n dX11_deal_36 rfl rfl) ?_
  refine Eq.trans (q_getf dX11_deal_37 mx_fld_11_71 (gf_47_36 _)) ?_
  refine Eq.trans (q_aload_n dX11_deal_40 rfl rfl) ?_
  refine Eq.trans (q_getf dX11_deal_41 mx_fld_11_59 (gf_47_30 _)) ?_
  refine Eq.trans (q_iload dX11_deal_44 rfl) ?_
  refine Eq.trans (q_ld (w := 0) (by decide) dX11_deal_46 (al_64 _ _)) (q_ite ?_)
  refine Eq.trans (q_iload_n dX11_deal_47 rfl) ?_
  refine Eq.trans (q_iload_n dX11_deal_48 rfl) ?_
  refine Eq.trans (q_ishr dX11_deal_49) ?_
  refine Eq.trans (q_iconst (x := 1) dX11_deal_50 rfl) ?_
  refine Eq.trans (q_iload dX11_deal_51 rfl) ?_
  refine Eq.trans (q_ishl dX11_deal_53) ?_
  refine Eq.trans (q_iconst (x := 1) dX11_deal_54 rfl) ?_
  refine Eq.trans (q_isub dX11_deal_55) ?_
  refine Eq.trans (q_iand dX11_deal_56) ?_
  refine Eq.trans (q_st (w := 0) (by decide) dX11_deal_57 (as_68 _ _ _)) (q_ite ?_)
  refine Eq.trans (q_iinc (x' := 1) (L' := [.ref 47, .int v1, .int v2, .int (v3 - s0), .int (v4 + 1), .int s0]) dX11_deal_58 rfl rfl rfl) ?_
  refine Eq.trans (q_goto 5 dX11_deal_61 rfl) ?_
  rfl
