theorem e_X11_kindOf_91 (v0 : Int64) (v2 : Int64) (v4 : Int32) (s0 : Int32) (h : mx_H)  : mx_D (1, mm_X11_kindOf, 91, [.long v0, mx_junk, .long v2, mx_junk, .int v4], [.int s0]) h = if (lg_cmp v0 15933) = 0 then if (lg_cmp v2 0) = 0 then mx_D (1, mm_X11_kindOf, 114, [.long v0, mx_junk, .long v2, mx_junk, .int s0], [.int 8]) h else (mx_D (1, mm_X11_kindOf, 112, [.long v0, mx_junk, .long v2, mx_junk, .int s0], []) h) else (mx_D (1, mm_X11_kindOf, 112, [.long v0, mx_junk, .long v2, mx_junk, .int s0], []) h) := by
  refine Eq.trans (q_istore (L' := [.long v0, mx_junk, .long v2, mx_junk, .int s0]) dX11_kindOf_91 (Nat.le_of_ble_eq_true rfl) rfl) ?_
  refine Eq.trans (q_lload_n dX11_kindOf_93 rfl) ?_
  refine Eq.trans (q_ldc2 dX11_kindOf_94 mx_ldc2_11_139) ?_
  refine Eq.trans (q_lcmp dX11_kindOf_97) ?_
  refine Eq.trans (q_if_ne 112 dX11_kindOf_98 rfl) (q_ite2 ?_ ?_)
  · refine Eq.trans (q_lload_n dX11_kindOf_101 rfl) ?_
    refine Eq.trans (q_lconst (x := 0) dX11_kindOf_102 rfl) ?_
    refine Eq.trans (q_lcmp dX11_kindOf_103) ?_
    refine Eq.trans (q_if_ne 112 dX11_kindOf_104 rfl) (q_ite2 ?_ ?_)
    · refine Eq.trans (q_bipush (x := 8) dX11_kindOf_107 rfl) ?_
      refine Eq.trans (q_goto 114 dX11_kindOf_109 rfl) ?_
      rfl
    · rfl
  · rfl
theorem e_X11_kindOf_112 (v0 : Int64) (v2 : Int64) (v4 : Int32) (h : mx_H)  : mx_D (1, mm_X11_kindOf, 112, [.long v0, mx_junk, .long v2, mx_junk, .int v4], []) h = mx_D (1, mm_X11_kindOf, 114, [.long v0, mx_junk, .long v2, mx_junk, .int v4], [.int v4]) h := by
  refine Eq.trans (q_iload dX11_kindOf_112 rfl) ?_
  rfl
theorem e_X11_kindOf_114 (v0 : Int64) (v2 : Int64) (v4 : Int32) (s0 : Int32) (h : mx_H)  : mx_D (1, mm_X11_kindOf, 114, [.long v0, mx_junk, .long v2, mx_junk, .int v4], [.int s0]) h = if (lg_cmp v0 61) = 0 then if (lg_cmp v2 0) = 0 then mx_D (1, mm_X11_kindOf, 137, [.long v0, mx_junk, .long v2, mx_junk, .int s0], [.int 9]) h else (mx_D (1, mm_X11_kindOf, 135, [.long v0, mx_junk, .long v2, mx_junk, .int s0], []) h) else (mx_D (1, mm_X11_kindOf, 135, [.long v0, mx_junk, .long v2, mx_junk, .int s0], []) h) := by
  refine Eq.trans (q_istore (L' := [.long v0, mx_junk, .long v2, mx_junk, .int s0]) dX11_kindOf_114 (Nat.le_of_ble_eq_true rfl) rfl) ?_
  refine Eq.trans (q_lload_n dX11_kindOf_116 rfl) ?_
  refine Eq.trans (q_ldc2 dX11_kindOf_117 mx_ldc2_11_141) ?_
  refine Eq.trans (q_lcmp dX11_kindOf_120) ?_
  refine Eq.trans (q_if_ne 135 dX11_kindOf_121 rfl) (q_ite2 ?_ ?_)
  · refine Eq.trans (q_lload_n dX11_kindOf_124 rfl) ?_
    refine Eq.trans (q_lconst (x := 0) dX11_kindOf_125 rfl) ?_
    refine Eq.trans (q_lcmp dX11_kindOf_126) ?_
    refine Eq.trans (q_if_ne 135 dX11_kindOf_127 rfl) (q_ite2 ?_ ?_)
    · refine Eq.trans (q_bipush (x := 9) dX11_kindOf_130 rfl) ?_
      refine Eq.trans (q_goto 137 dX11_kindOf_132 rfl) ?_
      rfl
    · rfl
  · rfl
theorem e_X11_kindOf_135 (v0 : Int64) (v2 : Int64) (v4 : Int32) (h : mx_H)  : mx_D (1, mm_X11_kindOf, 135, [.long v0, mx_junk, .long v2, mx_junk, .int v4], []) h = mx_D (1, mm_X11_kindOf, 137, [.long v0, mx_junk, .long v2, mx_junk, .int v4], [.int v4]) h := by
  refine Eq.trans (q_iload dX11_kindOf_135 rfl) ?_
  rfl
theorem e_X11_kindOf_137 (v0 : Int64) (v2 : Int64) (v4 : Int32) (s0 : Int32) (h : mx_H)  : mx_D (1, mm_X11_kindOf, 137, [.long v0, mx_junk, .long v2, mx_junk, .int v4], [.int s0]) h = if (lg_cmp v0 8386668330298337636) = 0 then if (lg_cmp v2 0) = 0 then mx_D (1, mm_X11_kindOf, 160, [.long v0, mx_junk, .long v2, mx_junk, .int s0], [.int 10]) h else (mx_D (1, mm_X11_kindOf, 158, [.long v0, mx_junk, .long v2, mx_junk, .int s0], []) h) else (mx_D (1, mm_X11_kindOf, 158, [.long v0, mx_junk, .long v2, mx_junk, .int s0], []) h) := by
  refine Eq.trans (q_istore (L' := [.long v0, mx_junk, .long v2, mx_junk, .int s0]) dX11_kindOf_137 (Nat.le_of_ble_eq_true rfl) rfl) ?_
  refine Eq.trans (q_lload_n dX11_kindOf_139 rfl) ?_
  refine Eq.trans (q_ldc2 dX11_kindOf_140 mx_ldc2_11_143) ?_
  refine Eq.trans (q_lcmp dX11_kindOf_143) ?_
  refine Eq.trans (q_if_ne 158 dX11_kindOf_144 rfl) (q_ite2 ?_ ?_)
  · refine Eq.trans (q_lload_n dX11_kindOf_147 rfl) ?_
    refine Eq.trans (q_lconst (x := 0) dX11_kindOf_148 rfl) ?_
    refine Eq.trans (q_lcmp dX11_kindOf_149) ?_
    refine Eq.trans (q_if_ne 158 dX11_kindOf_150 rfl) (q_ite2 ?_ ?_)
    · refine Eq.trans (q_bipush (x := 10) dX11_kindOf_153 rfl) ?_
      refine Eq.trans (q_goto 160 dX11_kindOf_155 rfl) ?_
      rfl
    · rfl
  · rfl
theorem e_X11_kindOf_158 (v0 : Int64) (v2 : Int64) (v4 : Int32) (h : mx_H)  : mx_D (1, mm_X11_kindOf, 158, [.long v0, mx_junk, .long v2, mx_junk, .int v4], []) h = mx_D (1, mm_X11_kindOf, 160, [.long v0, mx_junk, .long v2, mx_junk, .int v4], [.int v4]) h := by
  refine Eq.trans (q_iload dX11_kindOf_158 rfl) ?_
  rfl
theorem e_X11_kindOf_160 (v0 : Int64) (v2 : Int64) (v4 : Int32) (s0 : Int32) (h : mx_H)  : mx_D (1, mm_X11_kindOf, 160, [.long v0, mx_junk, .long v2, mx_junk, .int v4], [.int s0]) h = if (lg_cmp v0 6648937) = 0 then if (lg_cmp v2 0) = 0 then mx_D (1, mm_X11_kindOf, 183, [.long v0, mx_junk, .long v2, mx_junk, .int s0], [.int 11]) h else (mx_D (1, mm_X11_kindOf, 181, [.long v0, mx_junk, .long v2, mx_junk, .int s0], []) h) else (mx_D (1, mm_X11_kindOf, 181, [.long v0, mx_junk, .long v2, mx_junk, .int s0], []) h) := by
  refine Eq.trans (q_istore (L' := [.long v0, mx_junk, .long v2, mx_junk, .int s0]) dX11_kindOf_160 (Nat.le_of_ble_eq_true rfl) rfl) ?_
  refine Eq.trans (q_lload_n dX11_kindOf_162 rfl) ?_
  refine Eq.trans (q_ldc2 dX11_kindOf_163 mx_ldc2_11_145) ?_
  refine Eq.trans (q_lcmp dX11_kindOf_166) ?_
  refine Eq.trans (q_if_ne 181 dX11_kindOf_167 rfl) (q_ite2 ?_ ?_)
  · refine Eq.trans (q_lload_n dX11_kindOf_170 rfl) ?_
    refine Eq.trans (q_lconst (x := 0) dX11_kindOf_171 rfl) ?_
    refine Eq.trans (q_lcmp dX11_kindOf_172) ?_
    refine Eq.trans (q_if_ne 181 dX11_kindOf_173 rfl) (q_ite2 ?_ ?_)
    · refine Eq.trans (q_bipush (x := 11) dX11_kindOf_176 rfl) ?_
      refine Eq.trans (q_goto 183 dX11_kindOf_178 rfl) ?_
      rfl
    · rfl
  · rfl
theorem e_X11_kindOf_181 (v0 : Int64) (v2 : Int64) (v4 : Int32) (h : mx_H)  : mx_D (1, mm_X11_kindOf, 181, [.long v0, mx_junk, .long v2, mx_junk, .int v4], []) h = mx_D (1, mm_X11_kindOf, 183, [.long v0, mx_junk, .long v2, mx_junk, .int v4], [.int v4]) h := by
  refine Eq.trans (q_iload dX11_kindOf_181 rfl) ?_
  rfl
theorem e_X11_kindOf_183 (v0 : Int64) (v2 : Int64) (v4 : Int32) (s0 : Int32) (h : mx_H)  : mx_D (1, mm_X11_kindOf, 183, [.long v0, mx_junk, .long v2, mx_junk, .int v4], [.int s0]) h = if (lg_cmp v0 500085716578) = 0 then if (lg_cmp v2 0) = 0 then mx_D (1, mm_X11_kindOf, 206, [.long v0, mx_junk, .long v2, mx_junk, .int s0], [.int 12]) h else (mx_D (1, mm_X11_kindOf, 204, [.long v0, mx_junk, .long v2, mx_junk, .int s0], []) h) else (mx_D (1, mm_X11_kindOf, 204, [.long v0, mx_junk, .long v2, mx_junk, .int s0], []) h) := by
  refine Eq.trans (q_istore (L' := [.long v0, mx_junk, .long v2, mx_junk, .int s0]) dX11_kindOf_183 (Nat.le_of_ble_eq_true rfl) rfl) ?_
  refine Eq.trans (q_lload_n dX11_kindOf_185 rfl) ?_
  refine Eq.trans (q_ldc2 dX11_kindOf_186 mx_ldc2_11_147) ?_
  refine Eq.trans (q_lcmp dX11_kindOf_189) ?_
  refine Eq.trans (q_if_ne 204 dX11_kindOf_190 rfl) (q_ite2 ?_ ?_)
  · refine Eq.trans (q_lload_n dX11_kindOf_193 rfl) ?_
    refine Eq.trans (q_lconst (x := 0) dX11_kindOf_194 rfl) ?_
    refine Eq.trans (q_lcmp dX11_kindOf_195) ?_
    refine Eq.trans (q_if_ne 204 dX11_kindOf_196 rfl) (q_ite2 ?_ ?_)
    · refine Eq.trans (q_bipush (x := 12) dX11_kindOf_199 rfl) ?_
      refine Eq.trans (q_goto 206 dX11_kindOf_201 rfl) ?_
      rfl
    · rfl
  · rfl
theorem e_X11_kindOf_204 (v0 : Int64) (v2 : Int64) (v4 : Int32) (h : mx_H)  : mx_D (1, mm_X11_kindOf, 204, [.long v0, mx_junk, .long v2, mx_junk, .int v4], []) h = mx_D (1, mm_X11_kindOf, 206, [.long v0, mx_junk, .long v2, mx_junk, .int v4], [.int v4]) h := by
  refine Eq.trans (q_iload dX11_kindOf_204 rfl) ?_
  rfl
theorem e_X11_kindOf_206 (v0 : Int64) (v2 : Int64) (v4 : Int32) (s0 : Int32) (h : mx_H)  : mx_D (1, mm_X11_kindOf, 206, [.long v0, mx_junk, .long v2, mx_junk, .int v4], [.int s0]) h = if (lg_cmp v0 444083369570) = 0 then if (lg_cmp v2 0) = 0 then mx_D (1, mm_X11_kindOf, 229, [.long v0, mx_junk, .long v2, mx_junk, .int s0], [.int 13]) h else (mx_D (1, mm_X11_kindOf, 227, [.long v0, mx_junk, .long v2, mx_junk, .int s0], []) h) else (mx_D (1, mm_X11_kindOf, 227, [.long v0, mx_junk, .long v2, mx_junk, .int s0], []) h) := by
  refine Eq.trans (q_istore (L' := [.long v0, mx_junk, .long v2, mx_junk, .int s0]) dX11_kindOf_206 (Nat.le_of_ble_eq_true rfl) rfl) ?_
  refine Eq.trans (q_lload_n dX11_kindOf_208 rfl) ?_
  refine Eq.trans (q_ldc2 dX11_kindOf_209 mx_ldc2_11_149) ?_
  refine Eq.trans (q_lcmp dX11_kindOf_212) ?_
  refine Eq.trans (q_if_ne 227 dX11_kindOf_213 rfl) (q_ite2 ?_ ?_)
  · refine Eq.trans (q_lload_n dX11_kindOf_216 rfl) ?_
    refine Eq.trans (q_lconst (x := 0) dX11_kindOf_217 rfl) ?_
    refine Eq.trans (q_lcmp dX11_kindOf_218) ?_
    refine Eq.trans (q_if_ne 227 dX11_kindOf_219 rfl) (q_ite2 ?_ ?_)
    · refine Eq.trans (q_bipush (x := 13) dX11_kindOf_222 rfl) ?_
      refine Eq.trans (q_goto 229 dX11_kindOf_224 rfl) ?_
      rfl
    · rfl
  · rfl
theorem e_X11_kindOf_227 (v0 : Int64) (v2 : Int64) (v4 : Int32) (h : mx_H)  : mx_D (1, mm_X11_kindOf, 227, [.long v0, mx_junk, .long v2, mx_junk, .int v4], []) h = mx_D (1, mm_X11_kindOf, 229, [.long v0, mx_junk, .long v2, mx_junk, .int v4], [.int v4]) h := by
  refine Eq.trans (q_iload dX11_kindOf_227 rfl) ?_
  rfl
theorem e_X11_kindOf_229 (v0 : Int64) (v2 : Int64) (v4 : Int32) (s0 : Int32) (h : mx_H)  : mx_D (1, mm_X11_kindOf, 229, [.long v0, mx_junk, .long v2, mx_junk, .int v4], [.int s0]) h = if (lg_cmp v0 431348610658) = 0 then if (lg_cmp v2 0) = 0 then mx_D (1, mm_X11_kindOf, 252, [.long v0, mx_junk, .long v2, mx_junk, .int s0], [.int 14]) h else (mx_D (1, mm_X11_kindOf, 250, [.long v0, mx_junk, .long v2, mx_junk, .int s0], []) h) else (mx_D (1, mm_X11_kindOf, 250, [.long v0, mx_junk, .long v2, mx_junk, .int s0], []) h) := by
  refine Eq.trans (q_istore (L' := [.long v0, mx_junk, .long v2, mx_junk, .int s0]) dX11_kindOf_229 (Nat.le_of_ble_eq_true rfl) rfl) ?_
  refine Eq.trans (q_lload_n dX11_kindOf_231 rfl) ?_
  refine Eq.trans (q_ldc2 dX11_kindOf_232 mx_ldc2_11_151) ?_
  refine Eq.trans (q_lcmp dX11_kindOf_235) ?_
  refine Eq.trans (q_if_ne 250 dX11_kindOf_236 rfl) (q_ite2 ?_ ?_)
  · refine Eq.trans (q_lload_n dX11_kindOf_239 rfl) ?_
    refine Eq.trans (q_lconst (x := 0) dX11_kindOf_240 rfl) ?_
    refine Eq.trans (q_lcmp dX11_kindOf_241) ?_
    refine Eq.trans (q_if_ne 250 dX11_kindOf_242 rfl) (q_ite2 ?_ ?_)
    · refine Eq.trans (q_bipush (x := 14) dX11_kindOf_245 rfl) ?_
      refine Eq.trans (q_goto 252 dX11_kindOf_247 rfl) ?_
      rfl
    · rfl
  · rfl
theorem e_X11_kindOf_250 (v0 : Int64) (v2 : Int64) (v4 : Int32) (h : mx_H)  : mx_D (1, mm_X11_kindOf, 250, [.long v0, mx_junk, .long v2, mx_junk, .int v4], []) h = mx_D (1, mm_X11_kindOf, 252, [.long v0, mx_junk, .long v2, mx_junk, .int v4], [.int v4]) h := by
  refine Eq.trans (q_iload dX11_kindOf_250 rfl) ?_
  rfl
theorem e_X11_kindOf_252 (v0 : Int64) (v2 : Int64) (v4 : Int32) (s0 : Int32) (h : mx_H)  : mx_D (1, mm_X11_kindOf, 252, [.long v0, mx_junk, .long v2, mx_junk, .int v4], [.int s0]) h = if (lg_cmp v0 1919907426) = 0 then if (lg_cmp v2 0) = 0 then mx_D (1, mm_X11_kindOf, 275, [.long v0, mx_junk, .long v2, mx_junk, .int s0], [.int 15]) h else (mx_D (1, mm_X11_kindOf, 273, [.long v0, mx_junk, .long v2, mx_junk, .int s0], []) h) else (mx_D (1, mm_X11_kindOf, 273, [.long v0, mx_junk, .long v2, mx_junk, .int s0], []) h) := by
  refine Eq.trans (q_istore (L' := [.long v0, mx_junk, .long v2, mx_junk, .int s0]) dX11_kindOf_252 (Nat.le_of_ble_eq_true rfl) rfl) ?_
  refine Eq.trans (q_lload_n dX11_kindOf_254 rfl) ?_
  refine Eq.trans (q_ldc2 dX11_kindOf_255 mx_ldc2_11_153) ?_
  refine Eq.trans (q_lcmp dX11_kindOf_258) ?_
  refine Eq.trans (q_if_ne 273 dX11_kindOf_259 rfl) (q_ite2 ?_ ?_)
  · refine Eq.trans (q_lload_n dX11_kindOf_262 rfl) ?_
    refine Eq.trans (q_lconst (x := 0) dX11_kindOf_263 rfl) ?_
    refine Eq.trans (q_lcmp dX11_kindOf_264) ?_
    refine Eq.trans (q_if_ne 273 dX11_kindOf_265 rfl) (q_ite2 ?_ ?_)
    · refine Eq.trans (q_bipush (x := 15) dX11_kindOf_268 rfl) ?_
      refine Eq.trans (q_goto 275 dX11_kindOf_270 rfl) ?_
      rfl
    · rfl
  · rfl
theorem e_X11_kindOf_273 (v0 : Int64) (v2 : Int64) (v4 : Int32) (h : mx_H)  : mx_D (1, mm_X11_kindOf, 273, [.long v0, mx_junk, .long v2, mx_junk, .int v4], []) h = mx_D (1, mm_X11_kindOf, 275, [.long v0, mx_junk, .long v2, mx_junk, .int v4], [.int v4]) h := by
  refine Eq.trans (q_iload dX11_kindOf_273 rfl) ?_
  rfl
theorem e_X11_kindOf_275 (v0 : Int64) (v2 : Int64) (v4 : Int32) (s0 : Int32) (h : mx_H)  : mx_D (1, mm_X11_kindOf, 275, [.long v0, mx_junk, .long v2, mx_junk, .int v4], [.int s0]) h = if (lg_cmp v0 491496437346) = 0 then if (lg_cmp v2 0) = 0 then mx_D (1, mm_X11_kindOf, 298, [.long v0, mx_junk, .long v2, mx_junk, .int s0], [.int 16]) h else (mx_D (1, mm_X11_kindOf, 296, [.long v0, mx_junk, .long v2, mx_junk, .int s0], []) h) else (mx_D (1, mm_X11_kindOf, 296, [.long v0, mx_junk, .long v2, mx_junk, .int s0], []) h) := by
  refine Eq.trans (q_istore (L' := [.long v0, mx_junk, .long v2, mx_junk, .int s0]) dX11_kindOf_275 (Nat.le_of_ble_eq_true rfl) rfl) ?_
  refine Eq.trans (q_lload_n dX11_kindOf_277 rfl) ?_
  refine Eq.trans (q_ldc2 dX11_kindOf_278 mx_ldc2_11_155) ?_
  refine Eq.trans (q_lcmp dX11_kindOf_281) ?_
  refine Eq.trans (q_if_ne 296 dX11_kindOf_282 rfl) (q_ite2 ?_ ?_)
  · refine Eq.trans (q_lload_n dX11_kindOf_285 rfl) ?_
    refine Eq.trans (q_lconst (x := 0) dX11_kindOf_286 rfl) ?_
    refine Eq.trans (q_lcmp dX11_kindOf_287) ?_
    refine Eq.trans (q_if_ne 296 dX11_kindOf_288 rfl) (q_ite2 ?_ ?_)
    · refine Eq.trans (q_bipush (x := 16) dX11_kindOf_291 rfl) ?_
      refine Eq.trans (q_goto 298 dX11_kindOf_293 rfl) ?_
      rfl
    · rfl
  · rfl
theorem e_X11_kindOf_296 (v0 : Int64) (v2 : Int64) (v4 : Int32) (h : mx_H)  : mx_D (1, mm_X11_kindOf, 296, [.long v0, mx_junk, .long v2, mx_junk, .int v4], []) h = mx_D (1, mm_X11_kindOf, 298, [.long v0, mx_junk, .long v2, mx_junk, .int v4], [.int v4]) h := by
  refine Eq.trans (q_iload dX11_kindOf_296 rfl) ?_
  rfl
theorem e_X11_kindOf_298 (v0 : Int64) (v2 : Int64) (v4 : Int32) (s0 : Int32) (h : mx_H)  : mx_D (1, mm_X11_kindOf, 298, [.long v0, mx_junk, .long v2, mx_junk, .int v4], [.int s0]) h = if (lg_cmp v0 431180838498) = 0 then if (lg_cmp v2 0) = 0 then mx_D (1, mm_X11_kindOf, 321, [.long v0, mx_junk, .long v2, mx_junk, .int s0], [.int 17]) h else (mx_D (1, mm_X11_kindOf, 319, [.long v0, mx_junk, .long v2, mx_junk, .int s0], []) h) else (mx_D (1, mm_X11_kindOf, 319, [.long v0, mx_junk, .long v2, mx_junk, .int s0], []) h) := by
  refine Eq.trans (q_istore (L' := [.long v0, mx_junk, .long v2, mx_junk, .int s0]) dX11_kindOf_298 (Nat.le_of_ble_eq_true rfl) rfl) ?_
  refine Eq.trans (q_lload_n dX11_kindOf_300 rfl) ?_
  refine Eq.trans (q_ldc2 dX11_kindOf_301 mx_ldc2_11_157) ?_
  refine Eq.trans (q_lcmp dX11_kindOf_304) ?_
  refine Eq.trans (q_if_ne 319 dX11_kindOf_305 rfl) (q_ite2 ?_ ?_)
  · refine Eq.trans (q_lload_n dX11_kindOf_308 rfl) ?_
    refine Eq.trans (q_lconst (x := 0) dX11_kindOf_309 rfl) ?_
    refine Eq.trans (q_lcmp dX11_kindOf_310) ?_
    refine Eq.trans (q_if_ne 319 dX11_kindOf_311 rfl) (q_ite2 ?_ ?_)
    · refine Eq.trans (q_bipush (x := 17) dX11_kindOf_314 rfl) ?_
      refine Eq.trans (q_goto 321 dX11_kindOf_316 rfl) ?_
      rfl
    · rfl
  · rfl
theorem e_X11_kindOf_319 (v0 : Int64) (v2 : Int64) (v4 : Int32) (h : mx_H)  : mx_D (1, mm_X11_kindOf, 319, [.long v0, mx_junk, .long v2, mx_junk, .int v4], []) h = mx_D (1, mm_X11_kindOf, 321, [.long v0, mx_junk, .long v2, mx_junk, .int v4], [.int v4]) h := by
  refine Eq.trans (q_iload dX11_kindOf_319 rfl) ?_
  rfl
theorem e_X11_kindOf_321 (v0 : Int64) (v2 : Int64) (v4 : Int32) (s0 : Int32) (h : mx_H)  : mx_D (1, mm_X11_kindOf, 321, [.long v0, mx_junk, .long v2, mx_junk, .int v4], [.int s0]) h = if (lg_cmp v0 422877296226) = 0 then if (lg_cmp v2 0) = 0 then mx_D (1, mm_X11_kindOf, 344, [.long v0, mx_junk, .long v2, mx_junk, .int s0], [.int 18]) h else (mx_D (1, mm_X11_kindOf, 342, [.long v0, mx_junk, .long v2, mx_junk, .int s0], []) h) else (mx_D (1, mm_X11_kindOf, 342, [.long v0, mx_junk, .long v2, mx_junk, .int s0], []) h) := by
  refine Eq.trans (q_istore (L' := [.long v0, mx_junk, .long v2, mx_junk, .int s0]) dX11_kindOf_321 (Nat.le_of_ble_eq_true rfl) rfl) ?_
  refine Eq.trans (q_lload_n dX11_kindOf_323 rfl) ?_
  refine Eq.trans (q_ldc2 dX11_kindOf_324 mx_ldc2_11_159) ?_
  refine Eq.trans (q_lcmp dX11_kindOf_327) ?_
  refine Eq.trans (q_if_ne 342 dX11_kindOf_328 rfl) (q_ite2 ?_ ?_)
  · refine Eq.trans (q_lload_n dX11_kindOf_331 rfl) ?_
    refine Eq.trans (q_lconst (x := 0) dX11_kindOf_332 rfl) ?_
    refine Eq.trans (q_lcmp dX11_kindOf_333) ?_
    refine Eq.trans (q_if_ne 342 dX11_kindOf_334 rfl) (q_ite2 ?_ ?_)
    · refine Eq.trans (q_bipush (x := 18) dX11_kindOf_337 rfl) ?_
      refine Eq.trans (q_goto 344 dX11_kindOf_339 rfl) ?_
      rfl
    · rfl
  · rfl
theorem e_X11_kindOf_342 (v0 : Int64) (v2 : Int64) (v4 : Int32) (h : mx_H)  : mx_D (1, mm_X11_kindOf, 342, [.long v0, mx_junk, .long v2, mx_junk, .int v4], []) h = mx_D (1, mm_X11_kindOf, 344, [.long v0, mx_junk, .long v2, mx_junk, .int v4], [.int v4]) h := by
  refine Eq.trans (q_iload dX11_kindOf_342 rfl) ?_
  rfl
theorem e_X11_kindOf_344 (v0 : Int64) (v2 : Int64) (v4 : Int32) (s0 : Int32) (h : mx_H)  : mx_D (1, mm_X11_kindOf, 344, [.long v0, mx_junk, .long v2, mx_junk, .int v4], [.int s0]) h = if (lg_cmp v0 465826575970) = 0 then if (lg_cmp v2 0) = 0 then mx_D (1, mm_X11_kindOf, 367, [.long v0, mx_junk, .long v2, mx_junk, .int s0], [.int 19]) h else (mx_D (1, mm_X11_kindOf, 365, [.long v0, mx_junk, .long v2, mx_junk, .int s0], []) h) else (mx_D (1, mm_X11_kindOf, 365, [.long v0, mx_junk, .long v2, mx_junk, .int s0], []) h) := by
  refine Eq.trans (q_istore (L' := [.long v0, mx_junk, .long v2, mx_junk, .int s0]) dX11_kindOf_344 (Nat.le_of_ble_eq_true rfl) rfl) ?_
  refine Eq.trans (q_lload_n dX11_kindOf_346 rfl) ?_
  refine Eq.trans (q_ldc2 dX11_kindOf_347 mx_ldc2_11_161) ?_
  refine Eq.trans (q_lcmp dX11_kindOf_350) ?_
  refine Eq.trans (q_if_ne 365 dX11_kindOf_351 rfl) (q_ite2 ?_ ?_)
  · refine Eq.trans (q_lload_n dX11_kindOf_354 rfl) ?_
    refine Eq.trans (q_lconst (x := 0) dX11_kindOf_355 rfl) ?_
    refine Eq.trans (q_lcmp dX11_kindOf_356) ?_
    refine Eq.trans (q_if_ne 365 dX11_kindOf_357 rfl) (q_ite2 ?_ ?_)
    · refine Eq.trans (q_bipush (x := 19) dX11_kindOf_360 rfl) ?_
      refine Eq.trans (q_goto 367 dX11_kindOf_362 rfl) ?_
      rfl
    · rfl
  · rfl
theorem e_X11_kindOf_365 (v0 : Int64) (v2 : Int64) (v4 : Int32) (h : mx_H)  : mx_D (1, mm_X11_kindOf, 365, [.long v0, mx_junk, .long v2, mx_junk, .int v4], []) h = mx_D (1, mm_X11_kindOf, 367, [.long v0, mx_junk, .long v2, mx_junk, .int v4], [.int v4]) h := by
  refine Eq.trans (q_iload dX11_kindOf_365 rfl) ?_
  rfl
theorem e_X11_kindOf_367 (v0 : Int64) (v2 : Int64) (v4 : Int32) (s0 : Int32) (h : mx_H)  : mx_D (1, mm_X11_kindOf, 367, [.long v0, mx_junk, .long v2, mx_junk, .int v4], [.int s0]) h = if (lg_cmp v0 130195029063266) = 0 then if (lg_cmp v2 0) = 0 then mx_D (1, mm_X11_kindOf, 390, [.long v0, mx_junk, .long v2, mx_junk, .int s0], [.int 20]) h else (mx_D (1, mm_X11_kindOf, 388, [.long v0, mx_junk, .long v2, mx_junk, .int s0], []) h) else (mx_D (1, mm_X11_kindOf, 388, [.long v0, mx_junk, .long v2, mx_junk, .int s0], []) h) := by
  refine Eq.trans (q_istore (L' := [.long v0, mx_junk, .long v2, mx_junk, .int s0]) dX11_kindOf_367 (Nat.le_of_ble_eq_true rfl) rfl) ?_
  refine Eq.trans (q_lload_n dX11_kindOf_369 rfl) ?_
  refine Eq.trans (q_ldc2 dX11_kindOf_370 mx_ldc2_11_163) ?_
  refine Eq.trans (q_lcmp dX11_kindOf_373) ?_
  refine Eq.trans (q_if_ne 388 dX11_kindOf_374 rfl) (q_ite2 ?_ ?_)
  · refine Eq.trans (q_lload_n dX11_kindOf_377 rfl) ?_
    refine Eq.trans (q_lconst (x := 0) dX11_kindOf_378 rfl) ?_
    refine Eq.trans (q_lcmp dX11_kindOf_379) ?_
    refine Eq.trans (q_if_ne 388 dX11_kindOf_380 rfl) (q_ite2 ?_ ?_)
    · refine Eq.trans (q_bipush (x := 20) dX11_kindOf_383 rfl) ?_
      refine Eq.trans (q_goto 390 dX11_kindOf_385 rfl) ?_
      rfl
    · rfl
  · rfl
theorem e_X11_kindOf_388 (v0 : Int64) (v2 : Int64) (v4 : Int32) (h : mx_H)  : mx_D (1, mm_X11_kindOf, 388, [.long v0, mx_junk, .long v2, mx_junk, .int v4], []) h = mx_D (1, mm_X11_kindOf, 390, [.long v0, mx_junk, .long v2, mx_junk, .int v4], [.int v4]) h := by
  refine Eq.trans (q_iload dX11_kindOf_388 rfl) ?_
  rfl
theorem e_X11_kindOf_390 (v0 : Int64) (v2 : Int64) (v4 : Int32) (s0 : Int32) (h : mx_H)  : mx_D (1, mm_X11_kindOf, 390, [.long v0, mx_junk, .long v2, mx_junk, .int v4], [.int s0]) h = if (lg_cmp v0 120282479425122) = 0 then if (lg_cmp v2 0) = 0 then mx_D (1, mm_X11_kindOf, 413, [.long v0, mx_junk, .long v2, mx_junk, .int s0], [.int 21]) h else (mx_D (1, mm_X11_kindOf, 411, [.long v0, mx_junk, .long v2, mx_junk, .int s0], []) h) else (mx_D (1, mm_X11_kindOf, 411, [.long v0, mx_junk, .long v2, mx_junk, .int s0], []) h) := by
  refine Eq.trans (q_istore (L' := [.long v0, mx_junk, .long v2, mx_junk, .int s0]) dX11_kindOf_390 (Nat.le_of_ble_eq_true rfl) rfl) ?_
  refine Eq.trans (q_lload_n dX11_kindOf_392 rfl) ?_
  refine Eq.trans (q_ldc2 dX11_kindOf_393 mx_ldc2_11_165) ?_
  refine Eq.trans (q_lcmp dX11_kindOf_396) ?_
  refine Eq.trans (q_if_ne 411 dX11_kindOf_397 rfl) (q_ite2 ?_ ?_)
  · refine Eq.trans (q_lload_n dX11_kindOf_400 rfl) ?_
    refine Eq.trans (q_lconst (x := 0) dX11_kindOf_401 rfl) ?_
    refine Eq.trans (q_lcmp dX11_kindOf_402) ?_
    refine Eq.trans (q_if_ne 411 dX11_kindOf_403 rfl) (q_ite2 ?_ ?_)
    · refine Eq.trans (q_bipush (x := 21) dX11_kindOf_406 rfl) ?_
      refine Eq.trans (q_goto 413 dX11_kindOf_408 rfl) ?_
      rfl
    · rfl
  · rfl
theorem e_X11_kindOf_411 (v0 : Int64) (v2 : Int64) (v4 : Int32) (h : mx_H)  : mx_D (1, mm_X11_kindOf, 411, [.long v0, mx_junk, .long v2, mx_junk, .int v4], []) h = mx_D (1, mm_X11_kindOf, 413, [.long v0, mx_junk, .long v2, mx_junk, .int v4], [.int v4]) h := by
  refine Eq.trans (q_iload dX11_kindOf_411 rfl) ?_
  rfl
theorem e_X11_kindOf_413 (v0 : Int64) (v2 : Int64) (v4 : Int32) (s0 : Int32) (h : mx_H)  : mx_D (1, mm_X11_kindOf, 413, [.long v0, mx_junk, .long v2, mx_junk, .int v4], [.int s0]) h = if (lg_cmp v0 465608865378) = 0 then if (lg_cmp v2 0) = 0 then mx_D (1, mm_X11_kindOf, 436, [.long v0, mx_junk, .long v2, mx_junk, .int s0], [.int 22]) h else (mx_D (1, mm_X11_kindOf, 434, [.long v0, mx_junk, .long v2, mx_junk, .int s0], []) h) else (mx_D (1, mm_X11_kindOf, 434, [.long v0, mx_junk, .long v2, mx_junk, .int s0], []) h) := by
  refine Eq.trans (q_istore (L' := [.long v0, mx_junk, .long v2, mx_junk, .int s0]) dX11_kindOf_413 (Nat.le_of_ble_eq_true rfl) rfl) ?_
  refine Eq.trans (q_lload_n dX11_kindOf_415 rfl) ?_
  refine Eq.trans (q_ldc2 dX11_kindOf_416 mx_ldc2_11_167) ?_
  refine Eq.trans (q_lcmp dX11_kindOf_419) ?_
  refine Eq.trans (q_if_ne 434 dX11_kindOf_420 rfl) (q_ite2 ?_ ?_)
  · refine Eq.trans (q_lload_n dX11_kindOf_423 rfl) ?_
    refine Eq.trans (q_lconst (x := 0) dX11_kindOf_424 rfl) ?_
    refine Eq.trans (q_lcmp dX11_kindOf_425) ?_
    refine Eq.trans (q_if_ne 434 dX11_kindOf_426 rfl) (q_ite2 ?_ ?_)
    · refine Eq.trans (q_bipush (x := 22) dX11_kindOf_429 rfl) ?_
      refine Eq.trans (q_goto 436 dX11_kindOf_431 rfl) ?_
      rfl
    · rfl
  · rfl
theorem e_X11_kindOf_434 (v0 : Int64) (v2 : Int64) (v4 : Int32) (h : mx_H)  : mx_D (1, mm_X11_kindOf, 434, [.long v0, mx_junk, .long v2, mx_junk, .int v4], []) h = mx_D (1, mm_X11_kindOf, 436, [.long v0, mx_junk, .long v2, mx_junk, .int v4], [.int v4]) h := by
  refine Eq.trans (q_iload dX11_kindOf_434 rfl) ?_
  rfl
theorem e_X11_kindOf_436 (v0 : Int64) (v2 : Int64) (v4 : Int32) (s0 : Int32) (h : mx_H)  : mx_D (1, mm_X11_kindOf, 436, [.long v0, mx_junk, .long v2, mx_junk, .int v4], [.int s0]) h = if (lg_cmp v0 125792938653282) = 0 then if (lg_cmp v2 0) = 0 then mx_D (1, mm_X11_kindOf, 459, [.long v0, mx_junk, .long v2, mx_junk, .int s0], [.int 23]) h else (mx_D (1, mm_X11_kindOf, 457, [.long v0, mx_junk, .long v2, mx_junk, .int s0], []) h) else (mx_D (1, mm_X11_kindOf, 457, [.long v0, mx_junk, .long v2, mx_junk, .int s0], []) h) := by
  refine Eq.trans (q_istore (L' := [.long v0, mx_junk, .long v2, mx_junk, .int s0]) dX11_kindOf_436 (Nat.le_of_ble_eq_true rfl) rfl) ?_
  refine Eq.trans (q_lload_n dX11_kindOf_438 rfl) ?_
  refine Eq.trans (q_ldc2 dX11_kindOf_439 mx_ldc2_11_169) ?_
  refine Eq.trans (q_lcmp dX11_kindOf_442) ?_
  refine Eq.trans (q_if_ne 457 dX11_kindOf_443 rfl) (q_ite2 ?_ ?_)
  · refine Eq.trans (q_lload_n dX11_kindOf_446 rfl) ?_
    refine Eq.trans (q_lconst (x := 0) dX11_kindOf_447 rfl) ?_
    refine Eq.trans (q_lcmp dX11_kindOf_448) ?_
    refine Eq.trans (q_if_ne 457 dX11_kindOf_449 rfl) (q_ite2 ?_ ?_)
    · refine Eq.trans (q_bipush (x := 23) dX11_kindOf_452 rfl) ?_
      refine Eq.trans (q_goto 459 dX11_kindOf_454 rfl) ?_
      rfl
    · rfl
  · rfl
theorem e_X11_kindOf_457 (v0 : Int64) (v2 : Int64) (v4 : Int32) (h : mx_H)  : mx_D (1, mm_X11_kindOf, 457, [.long v0, mx_junk, .long v2, mx_junk, .int v4], []) h = mx_D (1, mm_X11_kindOf, 459, [.long v0, mx_junk, .long v2, mx_junk, .int v4], [.int v4]) h := by
  refine Eq.trans (q_iload dX11_kindOf_457 rfl) ?_
  rfl
theorem e_X11_kindOf_459 (v0 : Int64) (v2 : Int64) (v4 : Int32) (s0 : Int32) (h : mx_H)  : mx_D (1, mm_X11_kindOf, 459, [.long v0, mx_junk, .long v2, mx_junk, .int v4], [.int s0]) h = if (lg_cmp v0 125792937932386) = 0 then if (lg_cmp v2 0) = 0 then mx_D (1, mm_X11_kindOf, 482, [.long v0, mx_junk, .long v2, mx_junk, .int s0], [.int 24]) h else (mx_D (1, mm_X11_kindOf, 480, [.long v0, mx_junk, .long v2, mx_junk, .int s0], []) h) else (mx_D (1, mm_X11_kindOf, 480, [.long v0, mx_junk, .long v2, mx_junk, .int s0], []) h) := by
  refine Eq.trans (q_istore (L' := [.long v0, mx_junk, .long v2, mx_junk, .int s0]) dX11_kindOf_459 (Nat.le_of_ble_eq_true rfl) rfl) ?_
  refine Eq.trans (q_lload_n dX11_kindOf_461 rfl) ?_
  refine Eq.trans (q_ldc2 dX11_kindOf_462 mx_ldc2_11_171) ?_
  refine Eq.trans (q_lcmp dX11_kindOf_465) ?_
  refine Eq.trans (q_if_ne 480 dX11_kindOf_466 rfl) (q_ite2 ?_ ?_)
  · refine Eq.trans (q_lload_n dX11_kindOf_469 rfl) ?_
    refine Eq.trans (q_lconst (x := 0) dX11_kindOf_470 rfl) ?_
    refine Eq.trans (q_lcmp dX11_kindOf_471) ?_
    refine Eq.trans (q_if_ne 480 dX11_kindOf_472 rfl) (q_ite2 ?_ ?_)
    · refine Eq.trans (q_bipush (x := 24) dX11_kindOf_475 rfl) ?_
      refine Eq.trans (q_goto 482 dX11_kindOf_477 rfl) ?_
      rfl
    · rfl
  · rfl
theorem e_X11_kindOf_480 (v0 : Int64) (v2 : Int64) (v4 : Int32) (h : mx_H)  : mx_D (1, mm_X11_kindOf, 480, [.long v0, mx_junk, .long v2, mx_junk, .int v4], []) h = mx_D (1, mm_X11_kindOf, 482, [.long v0, mx_junk, .long v2, mx_junk, .int v4], [.int v4]) h := by
  refine Eq.trans (q_iload dX11_kindOf_480 rfl) ?_
  rfl
theorem e_X11_kindOf_482 (v0 : Int64) (v2 : Int64) (v4 : Int32) (s0 : Int32) (h : mx_H)  : mx_D (1, mm_X11_kindOf, 482, [.long v0, mx_junk, .long v2, mx_junk, .int v4], [.int s0]) h = if (lg_cmp v0 500035843682) = 0 then if (lg_cmp v2 0) = 0 then mx_D (1, mm_X11_kindOf, 505, [.long v0, mx_junk, .long v2, mx_junk, .int s0], [.int 25]) h else (mx_D (1, mm_X11_kindOf, 503, [.long v0, mx_junk, .long v2, mx_junk, .int s0], []) h) else (mx_D (1, mm_X11_kindOf, 503, [.long v0, mx_junk, .long v2, mx_junk, .int s0], []) h) := by
  refine Eq.trans (q_istore (L' := [.long v0, mx_junk, .long v2, mx_junk, .int s0]) dX11_kindOf_482 (Nat.le_of_ble_eq_true rfl) rfl) ?_
  refine Eq.trans (q_lload_n dX11_kindOf_484 rfl) ?_
  refine Eq.trans (q_ldc2 dX11_kindOf_485 mx_ldc2_11_173) ?_
  refine Eq.trans (q_lcmp dX11_kindOf_488) ?_
  refine Eq.trans (q_if_ne 503 dX11_kindOf_489 rfl) (q_ite2 ?_ ?_)
  · refine Eq.trans (q_lload_n dX11_kindOf_492 rfl) ?_
    refine Eq.trans (q_lconst (x := 0) dX11_kindOf_493 rfl) ?_
    refine Eq.trans (q_lcmp dX11_kindOf_494) ?_
    refine Eq.trans (q_if_ne 503 dX11_kindOf_495 rfl) (q_ite2 ?_ ?_)
    · refine Eq.trans (q_bipush (x := 25) dX11_kindOf_498 rfl) ?_
      refine Eq.trans (q_goto 505 dX11_kindOf_500 rfl) ?_
      rfl
    · rfl
  · rfl
theorem e_X11_kindOf_503 (v0 : Int64) (v2 : Int64) (v4 : Int32) (h : mx_H)  : mx_D (1, mm_X11_kindOf, 503, [.long v0, mx_junk, .long v2, mx_junk, .int v4], []) h = mx_D (1, mm_X11_kindOf, 505, [.long v0, mx_junk, .long v2, mx_junk, .int v4], [.int v4]) h := by
  refine Eq.trans (q_iload dX11_kindOf_503 rfl) ?_
  rfl
theorem e_X11_kindOf_505 (v0 : Int64) (v2 : Int64) (v4 : Int32) (s0 : Int32) (h : mx_H)  : mx_D (1, mm_X11_kindOf, 505, [.long v0, mx_junk, .long v2, mx_junk, .int v4], [.int s0]) h = if (lg_cmp v0 435611334242) = 0 then if (lg_cmp v2 0) = 0 then mx_D (1, mm_X11_kindOf, 528, [.long v0, mx_junk, .long v2, mx_junk, .int s0], [.int 26]) h else (mx_D (1, mm_X11_kindOf, 526, [.long v0, mx_junk, .long v2, mx_junk, .int s0], []) h) else (mx_D (1, mm_X11_kindOf, 526, [.long v0, mx_junk, .long v2, mx_junk, .int s0], []) h) := by
  refine Eq.trans (q_istore (L' := [.long v0, mx_junk, .long v2, mx_junk, .int s0]) dX11_kindOf_505 (Nat.le_of_ble_eq_true rfl) rfl) ?_
  refine Eq.trans (q_lload_n dX11_kindOf_507 rfl) ?_
  refine Eq.trans (q_ldc2 dX11_kindOf_508 mx_ldc2_11_175) ?_
  refine Eq.trans (q_lcmp dX11_kindOf_511) ?_
  refine Eq.trans (q_if_ne 526 dX11_kindOf_512 rfl) (q_ite2 ?_ ?_)
  · refine Eq.trans (q_lload_n dX11_kindOf_515 rfl) ?_
    refine Eq.trans (q_lconst (x := 0) dX11_kindOf_516 rfl) ?_
    refine Eq.trans (q_lcmp dX11_kindOf_517) ?_
    refine Eq.trans (q_if_ne 526 dX11_kindOf_518 rfl) (q_ite2 ?_ ?_)
    · refine Eq.trans (q_bipush (x := 26) dX11_kindOf_521 rfl) ?_
      refine Eq.trans (q_goto 528 dX11_kindOf_523 rfl) ?_
      rfl
    · rfl
  · rfl
theorem e_X11_kindOf_526 (v0 : Int64) (v2 : Int64) (v4 : Int32) (h : mx_H)  : mx_D (1, mm_X11_kindOf, 526, [.long v0, mx_junk, .long v2, mx_junk, .int v4], []) h = mx_D (1, mm_X11_kindOf, 528, [.long v0, mx_junk, .long v2, mx_junk, .int v4], [.int v4]) h := by
  refine Eq.trans (q_iload dX11_kindOf_526 rfl) ?_
  rfl
theorem e_X11_kindOf_528 (v0 : Int64) (v2 : Int64) (v4 : Int32) (s0 : Int32) (h : mx_H)  : mx_D (1, mm_X11_kindOf, 528, [.long v0, mx_junk, .long v2, mx_junk, .int v4], [.int s0]) h = if (lg_cmp v0 500035712610) = 0 then if (lg_cmp v2 0) = 0 then mx_D (1, mm_X11_kindOf, 551, [.long v0, mx_junk, .long v2, mx_junk, .int s0], [.int 27]) h else (mx_D (1, mm_X11_kindOf, 549, [.long v0, mx_junk, .long v2, mx_junk, .int s0], []) h) else (mx_D (1, mm_X11_kindOf, 549, [.long v0, mx_junk, .long v2, mx_junk, .int s0], []) h) := by
  refine Eq.trans (q_istore (L' := [.long v0, mx_junk, .long v2, mx_junk, .int s0]) dX11_kindOf_528 (Nat.le_of_ble_eq_true rfl) rfl) ?_
  refine Eq.trans (q_lload_n dX11_kindOf_530 rfl) ?_
  refine Eq.trans (q_ldc2 dX11_kindOf_531 mx_ldc2_11_177) ?_
  refine Eq.trans (q_lcmp dX11_kindOf_534) ?_
  refine Eq.trans (q_if_ne 549 dX11_kindOf_535 rfl) (q_ite2 ?_ ?_)
  · refine Eq.trans (q_lload_n dX11_kindOf_538 rfl) ?_
    refine Eq.trans (q_lconst (x := 0) dX11_kindOf_539 rfl) ?_
    refine Eq.trans (q_lcmp dX11_kindOf_540) ?_
    refine Eq.trans (q_if_ne 549 dX11_kindOf_541 rfl) (q_ite2 ?_ ?_)
    · refine Eq.trans (q_bipush (x := 27) dX11_kindOf_544 rfl) ?_
      refine Eq.trans (q_goto 551 dX11_kindOf_546 rfl) ?_
      rfl
    · rfl
  · rfl
theorem e_X11_kindOf_549 (v0 : Int64) (v2 : Int64) (v4 : Int32) (h : mx_H)  : mx_D (1, mm_X11_kindOf, 549, [.long v0, mx_junk, .long v2, mx_junk, .int v4], []) h = mx_D (1, mm_X11_kindOf, 551, [.long v0, mx_junk, .long v2, mx_junk, .int v4], [.int v4]) h := by
  refine Eq.trans (q_iload dX11_kindOf_549 rfl) ?_
  rfl
theorem e_X11_kindOf_551 (v0 : Int64) (v2 : Int64) (v4 : Int32) (s0 : Int32) (h : mx_H)  : mx_D (1, mm_X11_kindOf, 551, [.long v0, mx_junk, .long v2, mx_junk, .int v4], [.int s0]) h = if (lg_cmp v0 435611203170) = 0 then if (lg_cmp v2 0) = 0 then mx_D (1, mm_X11_kindOf, 574, [.long v0, mx_junk, .long v2, mx_junk, .int s0], [.int 28]) h else (mx_D (1, mm_X11_kindOf, 572, [.long v0, mx_junk, .long v2, mx_junk, .int s0], []) h) else (mx_D (1, mm_X11_kindOf, 572, [.long v0, mx_junk, .long v2, mx_junk, .int s0], []) h) := by
  refine Eq.trans (q_istore (L' := [.long v0, mx_junk, .long v2, mx_junk, .int s0]) dX11_kindOf_551 (Nat.le_of_ble_eq_true rfl) rfl) ?_
  refine Eq.trans (q_lload_n dX11_kindOf_553 rfl) ?_
  refine Eq.trans (q_ldc2 dX11_kindOf_554 mx_ldc2_11_179) ?_
  refine Eq.trans (q_lcmp dX11_kindOf_557) ?_
  refine Eq.trans (q_if_ne 572 dX11_kindOf_558 rfl) (q_ite2 ?_ ?_)
  · refine Eq.trans (q_lload_n dX11_kindOf_561 rfl) ?_
    refine Eq.trans (q_lconst (x := 0) dX11_kindOf_562 rfl) ?_
    refine Eq.trans (q_lcmp dX11_kindOf_563) ?_
    refine Eq.trans (q_if_ne 572 dX11_kindOf_564 rfl) (q_ite2 ?_ ?_)
    · refine Eq.trans (q_bipush (x := 28) dX11_kindOf_567 rfl) ?_
      refine Eq.trans (q_goto 574 dX11_kindOf_569 rfl) ?_
      rfl
    · rfl
  · rfl
theorem e_X11_kindOf_572 (v0 : Int64) (v2 : Int64) (v4 : Int32) (h : mx_H)  : mx_D (1, mm_X11_kindOf, 572, [.long v0, mx_junk, .long v2, mx_junk, .int v4], []) h = mx_D (1, mm_X11_kindOf, 574, [.long v0, mx_junk, .long v2, mx_junk, .int v4], [.int v4]) h := by
  refine Eq.trans (q_iload dX11_kindOf_572 rfl) ?_
  rfl
theorem e_X11_kindOf_574 (v0 : Int64) (v2 : Int64) (v4 : Int32) (s0 : Int32) (h : mx_H)  : mx_D (1, mm_X11_kindOf, 574, [.long v0, mx_junk, .long v2, mx_junk, .int v4], [.int s0]) h = if (lg_cmp v0 127961628831587) = 0 then if (lg_cmp v2 0) = 0 then mx_D (1, mm_X11_kindOf, 597, [.long v0, mx_junk, .long v2, mx_junk, .int s0], [.int 29]) h else (mx_D (1, mm_X11_kindOf, 595, [.long v0, mx_junk, .long v2, mx_junk, .int s0], []) h) else (mx_D (1, mm_X11_kindOf, 595, [.long v0, mx_junk, .long v2, mx_junk, .int s0], []) h) := by
  refine Eq.trans (q_istore (L' := [.long v0, mx_junk, .long v2, mx_junk, .int s0]) dX11_kindOf_574 (Nat.le_of_ble_eq_true rfl) rfl) ?_
  refine Eq.trans (q_lload_n dX11_kindOf_576 rfl) ?_
  refine Eq.trans (q_ldc2 dX11_kindOf_577 mx_ldc2_11_181) ?_
  refine Eq.trans (q_lcmp dX11_kindOf_580) ?_
  refine Eq.trans (q_if_ne 595 dX11_kindOf_581 rfl) (q_ite2 ?_ ?_)
  · refine Eq.trans (q_lload_n dX11_kindOf_584 rfl) ?_
    refine Eq.trans (q_lconst (x := 0) dX11_kindOf_585 rfl) ?_
    refine Eq.trans (q_lcmp dX11_kindOf_586) ?_
    refine Eq.trans (q_if_ne 595 dX11_kindOf_587 rfl) (q_ite2 ?_ ?_)
    · refine Eq.trans (q_bipush (x := 29) dX11_kindOf_590 rfl) ?_
      refine Eq.trans (q_goto 597 dX11_kindOf_592 rfl) ?_
      rfl
    · rfl
  · rfl
theorem e_X11_kindOf_595 (v0 : Int64) (v2 : Int64) (v4 : Int32) (h : mx_H)  : mx_D (1, mm_X11_kindOf, 595, [.long v0, mx_junk, .long v2, mx_junk, .int v4], []) h = mx_D (1, mm_X11_kindOf, 597, [.long v0, mx_junk, .long v2, mx_junk, .int v4], [.int v4]) h := by
  refine Eq.trans (q_iload dX11_kindOf_595 rfl) ?_
  rfl
theorem e_X11_kindOf_597 (v0 : Int64) (v2 : Int64) (v4 : Int32) (s0 : Int32) (h : mx_H)  : mx_D (1, mm_X11_kindOf, 597, [.long v0, mx_junk, .long v2, mx_junk, .int v4], [.int s0]) h = if (lg_cmp v0 127970252186995) = 0 then if (lg_cmp v2 0) = 0 then mx_D (1, mm_X11_kindOf, 620, [.long v0, mx_junk, .long v2, mx_junk, .int s0], [.int 33]) h else (mx_D (1, mm_X11_kindOf, 618, [.long v0, mx_junk, .long v2, mx_junk, .int s0], []) h) else (mx_D (1, mm_X11_kindOf, 618, [.long v0, mx_junk, .long v2, mx_junk, .int s0], []) h) := by
  refine Eq.trans (q_istore (L' := [.long v0, mx_junk, .long v2, mx_junk, .int s0]) dX11_kindOf_597 (Nat.le_of_ble_eq_true rfl) rfl) ?_
  refine Eq.trans (q_lload_n dX11_kindOf_599 rfl) ?_
  refine Eq.trans (q_ldc2 dX11_kindOf_600 mx_ldc2_11_183) ?_
  refine Eq.trans (q_lcmp dX11_kindOf_603) ?_
  refine Eq.trans (q_if_ne 618 dX11_kindOf_604 rfl) (q_ite2 ?_ ?_)
  · refine Eq.trans (q_lload_n dX11_kindOf_607 rfl) ?_
    refine Eq.trans (q_lconst (x := 0) dX11_kindOf_608 rfl) ?_
    refine Eq.trans (q_lcmp dX11_kindOf_609) ?_
    refine Eq.trans (q_if_ne 618 dX11_kindOf_610 rfl) (q_ite2 ?_ ?_)
    · refine Eq.trans (q_bipush (x := 33) dX11_kindOf_613 rfl) ?_
      refine Eq.trans (q_goto 620 dX11_kindOf_615 rfl) ?_
      rfl
    · rfl
  · rfl
theorem e_X11_kindOf_618 (v0 : Int64) (v2 : Int64) (v4 : Int32) (h : mx_H)  : mx_D (1, mm_X11_kindOf, 618, [.long v0, mx_junk, .long v2, mx_junk, .int v4], []) h = mx_D (1, mm_X11_kindOf, 620, [.long v0, mx_junk, .long v2, mx_junk, .int v4], [.int v4]) h := by
  refine Eq.trans (q_iload dX11_kindOf_618 rfl) ?_
  rfl
theorem e_X11_kindOf_620 (v0 : Int64) (v2 : Int64) (v4 : Int32) (s0 : Int32) (h : mx_H)  : mx_D (1, mm_X11_kindOf, 620, [.long v0, mx_junk, .long v2, mx_junk, .int v4], [.int s0]) h = if (lg_cmp v0 435711603827) = 0 then if (lg_cmp v2 0) = 0 then mx_D (1, mm_X11_kindOf, 643, [.long v0, mx_junk, .long v2, mx_junk, .int s0], [.int 34]) h else (mx_D (1, mm_X11_kindOf, 641, [.long v0, mx_junk, .long v2, mx_junk, .int s0], []) h) else (mx_D (1, mm_X11_kindOf, 641, [.long v0, mx_junk, .long v2, mx_junk, .int s0], []) h) := by
  refine Eq.trans (q_istore (L' := [.long v0, mx_junk, .long v2, mx_junk, .int s0]) dX11_kindOf_620 (Nat.le_of_ble_eq_true rfl) rfl) ?_
  refine Eq.trans (q_lload_n dX11_kindOf_622 rfl) ?_
  refine Eq.trans (q_ldc2 dX11_kindOf_623 mx_ldc2_11_185) ?_
  refine Eq.trans (q_lcmp dX11_kindOf_626) ?_
  refine Eq.trans (q_if_ne 641 dX11_kindOf_627 rfl) (q_ite2 ?_ ?_)
  · refine Eq.trans (q_lload_n dX11_kindOf_630 rfl) ?_
    refine Eq.trans (q_lconst (x := 0) dX11_kindOf_631 rfl) ?_
    refine Eq.trans (q_lcmp dX11_kindOf_632) ?_
    refine Eq.trans (q_if_ne 641 dX11_kindOf_633 rfl) (q_ite2 ?_ ?_)
    · refine Eq.trans (q_bipush (x := 34) dX11_kindOf_636 rfl) ?_
      refine Eq.trans (q_goto 643 dX11_kindOf_638 rfl) ?_
      rfl
    · rfl
  · rfl
theorem e_X11_kindOf_641 (v0 : Int64) (v2 : Int64) (v4 : Int32) (h : mx_H)  : mx_D (1, mm_X11_kindOf, 641, [.long v0, mx_junk, .long v2, mx_junk, .int v4], []) h = mx_D (1, mm_X11_kindOf, 643, [.long v0, mx_junk, .long v2, mx_junk, .int v4], [.int v4]) h := by
  refine Eq.trans (q_iload dX11_kindOf_641 rfl) ?_
  rfl
theorem e_X11_kindOf_643 (v0 : Int64) (v2 : Int64) (v4 : Int32) (s0 : Int32) (h : mx_H)  : mx_D (1, mm_X11_kindOf, 643, [.long v0, mx_junk, .long v2, mx_junk, .int v4], [.int s0]) h = if (lg_cmp v0 7628140) = 0 then if (lg_cmp v2 0) = 0 then mx_D (1, mm_X11_kindOf, 666, [.long v0, mx_junk, .long v2, mx_junk, .int s0], [.int 35]) h else (mx_D (1, mm_X11_kindOf, 664, [.long v0, mx_junk, .long v2, mx_junk, .int s0], []) h) else (mx_D (1, mm_X11_kindOf, 664, [.long v0, mx_junk, .long v2, mx_junk, .int s0], []) h) := by
  refine Eq.trans (q_istore (L' := [.long v0, mx_junk, .long v2, mx_junk, .int s0]) dX11_kindOf_643 (Nat.le_of_ble_eq_true rfl) rfl) ?_
  refine Eq.trans (q_lload_n dX11_kindOf_645 rfl) ?_
  refine Eq.trans (q_ldc2 dX11_kindOf_646 mx_ldc2_11_187) ?_
  refine Eq.trans (q_lcmp dX11_kindOf_649) ?_
  refine Eq.trans (q_if_ne 664 dX11_kindOf_650 rfl) (q_ite2 ?_ ?_)
  · refine Eq.trans (q_lload_n dX11_kindOf_653 rfl) ?_
    refine Eq.trans (q_lconst (x := 0) dX11_kindOf_654 rfl) ?_
    refine Eq.trans (q_lcmp dX11_kindOf_655) ?_
    refine Eq.trans (q_if_ne 664 dX11_kindOf_656 rfl) (q_ite2 ?_ ?_)
    · refine Eq.trans (q_bipush (x := 35) dX11_kindOf_659 rfl) ?_
      refine Eq.trans (q_goto 666 dX11_kindOf_661 rfl) ?_
      rfl
    · rfl
  · rfl
theorem e_X11_kindOf_664 (v0 : Int64) (v2 : Int64) (v4 : Int32) (h : mx_H)  : mx_D (1, mm_X11_kindOf, 664, [.long v0, mx_junk, .long v2, mx_junk, .int v4], []) h = mx_D (1, mm_X11_kindOf, 666, [.long v0, mx_junk, .long v2, mx_junk, .int v4], [.int v4]) h := by
  refine Eq.trans (q_iload dX11_kindOf_664 rfl) ?_
  rfl
theorem e_X11_kindOf_666 (v0 : Int64) (v2 : Int64) (v4 : Int32) (s0 : Int32) (h : mx_H)  : mx_D (1, mm_X11_kindOf, 666, [.long v0, mx_junk, .long v2, mx_junk, .int v4], [.int s0]) h = some (some (.int s0), h) := by
  refine Eq.trans (q_istore (L' := [.long v0, mx_junk, .long v2, mx_junk, .int s0]) dX11_kindOf_666 (Nat.le_of_ble_eq_true rfl) rfl) ?_
  refine Eq.trans (q_iload dX11_kindOf_668 rfl) ?_
  exact q_retI dX11_kindOf_670 rfl
theorem e_X11_isName_0  (h : mx_H)  : mx_D (3, mm_X11_isName, 0, [.ref 47, mx_junk, mx_junk], []) h = if (h.1 47 2) = 3 then if 4 < ((h.1 47 4) - (h.1 47 3)) then mx_D (3, mm_X11_isName, 39, [.ref 47, mx_junk, mx_junk], []) h else ((mx_C mm_X11_kindOf [.long (h.2.1 47 5), .long (h.2.1 47 6)] h).bind (fun o => mx_D (3, mm_X11_isName, 32, [.ref 47, mx_junk, mx_junk], o.1.toList ++ []) o.2)) else (mx_D (3, mm_X11_isName, 39, [.ref 47, mx_junk, mx_junk], []) h) := by
  refine Eq.trans (q_aload_n dX11_isName_0 rfl rfl) ?_
  refine Eq.trans (q_getf dX11_isName_1 mx_fld_11_115 (gf_47_2 _)) ?_
  refine Eq.trans (q_iconst (x := 3) dX11_isName_4 rfl) ?_
  refine Eq.trans (q_icmp_ne 39 dX11_isName_5 rfl) (q_ite2 ?_ ?_)
  · refine Eq.trans (q_aload_n dX11_isName_8 rfl rfl) ?_
    refine Eq.trans (q_getf dX11_isName_9 mx_fld_11_99 (gf_47_4 _)) ?_
    refine Eq.trans (q_aload_n dX11_isName_12 rfl rfl) ?_
    refine Eq.trans (q_getf dX11_isName_13 mx_fld_11_102 (gf_47_3 _)) ?_
    refine Eq.trans (q_isub dX11_isName_16) ?_
    refine Eq.trans (q_iconst (x := 4) dX11_isName_17 rfl) ?_
    refine Eq.trans (q_icmp_gt 39 dX11_isName_18 rfl) (q_ite2 ?_ ?_)
    · rfl
    · refine Eq.trans (q_aload_n dX11_isName_21 rfl rfl) ?_
      refine Eq.trans (q_getf dX11_isName_22 mx_fld_11_105 (gf_47_5 _)) ?_
      refine Eq.trans (q_aload_n dX11_isName_25 rfl rfl) ?_
      refine Eq.trans (q_getf dX11_isName_26 mx_fld_11_109 (gf_47_6 _)) ?_
      exact q_call1 (as := [.long (h.2.1 47 5), .long (h.2.1 47 6)]) (rest := []) dX11_isName_29 mx_inv_11_189 rfl rfl ⟨Nat.le_of_ble_eq_true rfl, Nat.le_of_ble_eq_true rfl, (Nat.le_of_ble_eq_true rfl)⟩
  · rfl
theorem c_X11_isName  (h : mx_H) : mx_C mm_X11_isName [.ref 47] h = mx_D (3, mm_X11_isName, 0, [.ref 47, mx_junk, mx_junk], []) h := rfl
theorem e_X11_isName_32 (s0 : Int32) (h : mx_H)  : mx_D (3, mm_X11_isName, 32, [.ref 47, mx_junk, mx_junk], [.int s0]) h = if 0 ≤ s0 then mx_D (3, mm_X11_isName, 39, [.ref 47, mx_junk, mx_junk], []) h else (mx_D (3, mm_X11_isName, 40, [.ref 47, mx_junk, mx_junk], [.int 1]) h) := by
  refine Eq.trans (q_if_ge 39 dX11_isName_32 rfl) (q_ite2 ?_ ?_)
  · rfl
  · refine Eq.trans (q_iconst (x := 1) dX11_isName_35 rfl) ?_
    refine Eq.trans (q_goto 40 dX11_isName_36 rfl) ?_
    rfl
theorem e_X11_isName_39  (h : mx_H)  : mx_D (3, mm_X11_isName, 39, [.ref 47, mx_junk, mx_junk], []) h = mx_D (3, mm_X11_isName, 40, [.ref 47, mx_junk, mx_junk], [.int 0]) h := by
  refine Eq.trans (q_iconst (x := 0) dX11_isName_39 rfl) ?_
  rfl
theorem e_X11_isName_40 (s0 : Int32) (h : mx_H)  : mx_D (3, mm_X11_isName, 40, [.ref 47, mx_junk, mx_junk], [.int s0]) h = mx_D (3, mm_X11_isName, 46, [.ref 47, .int s0, .int (h.1 47 3)], []) h := by
  refine Eq.trans (q_istore_n (L' := [.ref 47, .int s0, mx_junk]) dX11_isName_40 (Nat.le_of_ble_eq_true rfl) rfl) ?_
  refine Eq.trans (q_aload_n dX11_isName_41 rfl rfl) ?_
  refine Eq.trans (q_getf dX11_isName_42 mx_fld_11_102 (gf_47_3 _)) ?_
  refine Eq.trans (q_istore_n (L' := [.ref 47, .int s0, .int (h.1 47 3)]) dX11_isName_45 (Nat.le_of_ble_eq_true rfl) rfl) ?_
  rfl
theorem e_X11_isName_46 (v1 : Int32) (v2 : Int32) (h : mx_H)  : mx_D (3, mm_X11_isName, 46, [.ref 47, .int v1, .int v2], []) h = if (h.1 47 4) ≤ v2 then mx_D (3, mm_X11_isName, 74, [.ref 47, .int v1, .int v2], []) h else (if v1 = 0 then mx_D (3, mm_X11_isName, 74, [.ref 47, .int v1, .int v2], []) h else (if mx_in v2 120 = true then (mx_C mm_X11_isLetter [.int (h.1 48 v2.toNatClampNeg)] h).bind (fun o => mx_D (3, mm_X11_isName, 67, [.ref 47, .int v1, .int v2], o.1.toList ++ []) o.2) else none)) := by
  refine Eq.trans (q_iload_n dX11_isName_46 rfl) ?_
  refine Eq.trans (q_aload_n dX11_isName_47 rfl rfl) ?_
  refine Eq.trans (q_getf dX11_isName_48 mx_fld_11_99 (gf_47_4 _)) ?_
  refine Eq.trans (q_icmp_ge 74 dX11_isName_51 rfl) (q_ite2 ?_ ?_)
  · rfl
  · refine Eq.trans (q_iload_n dX11_isName_54 rfl) ?_
    refine Eq.trans (q_if_eq 74 dX11_isName_55 rfl) (q_ite2 ?_ ?_)
    · rfl
    · refine Eq.trans (q_aload_n dX11_isName_58 rfl rfl) ?_
      refine Eq.trans (q_getf dX11_isName_59 mx_fld_11_7 (gf_47_0 _)) ?_
      refine Eq.trans (q_iload_n dX11_isName_62 rfl) ?_
      refine Eq.trans (q_ld (w := 0) (by decide) dX11_isName_63 (al_48 _ _)) (q_ite ?_)
      exact q_call1 (as := [.int (h.1 48 v2.toNatClampNeg)]) (rest := []) dX11_isName_64 mx_inv_11_92 rfl rfl ⟨Nat.le_of_ble_eq_true rfl, Nat.le_of_ble_eq_true rfl, (Nat.le_of_ble_eq_true rfl)⟩
theorem e_X11_isName_67 (v1 : Int32) (v2 : Int32) (s0 : Int32) (h : mx_H)  : mx_D (3, mm_X11_isName, 67, [.ref 47, .int v1, .int v2], [.int s0]) h = mx_D (3, mm_X11_isName, 46, [.ref 47, .int s0, .int (v2 + 1)], []) h := by
  refine Eq.trans (q_istore_n (L' := [.ref 47, .int s0, .int v2]) dX11_isName_67 (Nat.le_of_ble_eq_true rfl) rfl) ?_
  refine Eq.trans (q_iinc (x' := 1) (L' := [.ref 47, .int s0, .int (v2 + 1)]) dX11_isName_68 rfl rfl rfl) ?_
  refine Eq.trans (q_goto 46 dX11_isName_71 rfl) ?_
  rfl
theorem e_X11_isName_74 (v1 : Int32) (v2 : Int32) (h : mx_H)  : mx_D (3, mm_X11_isName, 74, [.ref 47, .int v1, .int v2], []) h = if v1 = 0 then mx_D (3, mm_X11_isName, 126, [.ref 47, .int v1, .int v2], []) h else (if (lg_cmp (h.2.1 47 5) 1819242306) = 0 then mx_D (3, mm_X11_isName, 126, [.ref 47, .int v1, .int v2], []) h else (if (lg_cmp (h.2.1 47 5) 1752397168) = 0 then mx_D (3, mm_X11_isName, 126, [.ref 47, .int v1, .int v2], []) h else (if (lg_cmp (h.2.1 47 5) 7368560) = 0 then mx_D (3, mm_X11_isName, 126, [.ref 47, .int v1, .int v2], []) h else (if (lg_cmp (h.2.1 47 5) 1702195828) = 0 then mx_D (3, mm_X11_isName, 126, [.ref 47, .int v1, .int v2], []) h else (mx_D (3, mm_X11_isName, 127, [.ref 47, .int v1, .int v2], [.int 1]) h))))) := by
  refine Eq.trans (q_iload_n dX11_isName_74 rfl) ?_
  refine Eq.trans (q_if_eq 126 dX11_isName_75 rfl) (q_ite2 ?_ ?_)
  · rfl
  · refine Eq.trans (q_aload_n dX11_isName_78 rfl rfl) ?_
    refine Eq.trans (q_getf dX11_isName_79 mx_fld_11_105 (gf_47_5 _)) ?_
    refine Eq.trans (q_ldc2 dX11_isName_82 mx_ldc2_11_193) ?_
    refine Eq.trans (q_lcmp dX11_isName_85) ?_
    refine Eq.trans (q_if_eq 126 dX11_isName_86 rfl) (q_ite2 ?_ ?_)
    · rfl
    · refine Eq.trans (q_aload_n dX11_isName_89 rfl rfl) ?_
      refine Eq.trans (q_getf dX11_isName_90 mx_fld_11_105 (gf_47_5 _)) ?_
      refine Eq.trans (q_ldc2 dX11_isName_93 mx_ldc2_11_195) ?_
      refine Eq.trans (q_lcmp dX11_isName_96) ?_
      refine Eq.trans (q_if_eq 126 dX11_isName_97 rfl) (q_ite2 ?_ ?_)
      · rfl
      · refine Eq.trans (q_aload_n dX11_isName_100 rfl rfl) ?_
        refine Eq.trans (q_getf dX11_isName_101 mx_fld_11_105 (gf_47_5 _)) ?_
        refine Eq.trans (q_ldc2 dX11_isName_104 mx_ldc2_11_197) ?_
        refine Eq.trans (q_lcmp dX11_isName_107) ?_
        refine Eq.trans (q_if_eq 126 dX11_isName_108 rfl) (q_ite2 ?_ ?_)
        · rfl
        · refine Eq.trans (q_aload_n dX11_isName_111 rfl rfl) ?_
          refine Eq.trans (q_getf dX11_isName_112 mx_fld_11_105 (gf_47_5 _)) ?_
          refine Eq.trans (q_ldc2 dX11_isName_115 mx_ldc2_11_199) ?_
          refine Eq.trans (q_lcmp dX11_isName_118) ?_
          refine Eq.trans (q_if_eq 126 dX11_isName_119 rfl) (q_ite2 ?_ ?_)
          · rfl
          · refine Eq.trans (q_iconst (x := 1) dX11_isName_122 rfl) ?_
            refine Eq.trans (q_goto 127 dX11_isName_123 rfl) ?_
            rfl
theorem e_X11_isName_126 (v1 : Int32) (v2 : Int32) (h : mx_H)  : mx_D (3, mm_X11_isName, 126, [.ref 47, .int v1, .int v2], []) h = mx_D (3, mm_X11_isName, 127, [.ref 47, .int v1, .int v2], [.int 0]) h := by
  refine Eq.trans (q_iconst (x := 0) dX11_isName_126 rfl) ?_
  rfl
theorem e_X11_isName_127 (v1 : Int32) (v2 : Int32) (s0 : Int32) (h : mx_H)  : mx_D (3, mm_X11_isName, 127, [.ref 47, .int v1, .int v2], [.int s0]) h = if narrow .boolean (.int s0) = .int s0 then some (some (.int s0), h) else none := by
  exact q_ret dX11_isName_127 rfl
theorem e_X11_readWidth_0 (v1 : Int32) (h : mx_H)  : mx_D (7, mm_X11_readWidth, 0, [.ref 47, .int v1, mx_junk], []) h = (mx_C mm_X11_word [.ref 47, .long 95, .long 0] h).bind (fun o => mx_D (7, mm_X11_readWidth, 8, [.ref 47, .int v1, mx_junk], o.1.toList ++ []) o.2) := by
  refine Eq.trans (q_aload_n dX11_readWidth_0 rfl rfl) ?_
  refine Eq.trans (q_ldc2 dX11_readWidth_1 mx_ldc2_11_201) ?_
  refine Eq.trans (q_lconst (x := 0) dX11_readWidth_4 rfl) ?_
  exact q_call0 (as := [.long 95, .long 0]) (rest := []) dX11_readWidth_5 mx_inv_11_203 rfl rfl rfl ⟨Nat.le_of_ble_eq_true rfl, Nat.le_of_ble_eq_true rfl, (Nat.le_of_ble_eq_true rfl)⟩
theorem c_X11_readWidth (v1 : Int32) (h : mx_H) : mx_C mm_X11_readWidth [.ref 47, .int v1] h = mx_D (7, mm_X11_readWidth, 0, [.ref 47, .int v1, mx_junk], []) h := rfl
theorem e_X11_readWidth_8 (v1 : Int32) (s0 : Int32) (h : mx_H)  : mx_D (7, mm_X11_readWidth, 8, [.ref 47, .int v1, mx_junk], [.int s0]) h = if s0 = 0 then mx_D (7, mm_X11_readWidth, 22, [.ref 47, .int v1, mx_junk], []) h else ((mx_C mm_X11_word [.ref 47, .long 109286893316418, .long 0] h).bind (fun o => mx_D (7, mm_X11_readWidth, 19, [.ref 47, .int v1, mx_junk], o.1.toList ++ []) o.2)) := by
  refine Eq.trans (q_if_eq 22 dX11_readWidth_8 rfl) (q_ite2 ?_ ?_)
  · rfl
  · refine Eq.trans (q_aload_n dX11_readWidth_11 rfl rfl) ?_
    refine Eq.trans (q_ldc2 dX11_readWidth_12 mx_ldc2_11_207) ?_
    refine Eq.trans (q_lconst (x := 0) dX11_readWidth_15 rfl) ?_
    exact q_call0 (as := [.long 109286893316418, .long 0]) (rest := []) dX11_readWidth_16 mx_inv_11_203 rfl rfl rfl ⟨Nat.le_of_ble_eq_true rfl, Nat.le_of_ble_eq_true rfl, (Nat.le_of_ble_eq_true rfl)⟩
theorem e_X11_readWidth_19 (v1 : Int32) (s0 : Int32) (h : mx_H)  : mx_D (7, mm_X11_readWidth, 19, [.ref 47, .int v1, mx_junk], [.int s0]) h = if s0 = 0 then mx_D (7, mm_X11_readWidth, 22, [.ref 47, .int v1, mx_junk], []) h else ((mx_C mm_X11_number [.ref 47] h).bind (fun o => mx_D (7, mm_X11_readWidth, 28, [.ref 47, .int v1, mx_junk], o.1.toList ++ []) o.2)) := by
  refine Eq.trans (q_if_ne 24 dX11_readWidth_19 rfl) (q_ite2 ?_ ?_)
  · rfl
  · refine Eq.trans (q_aload_n dX11_readWidth_24 rfl rfl) ?_
    exact q_call0 (as := []) (rest := []) dX11_readWidth_25 mx_inv_11_209 rfl rfl rfl ⟨Nat.le_of_ble_eq_true rfl, Nat.le_of_ble_eq_true rfl, (Nat.le_of_ble_eq_true rfl)⟩
theorem e_X11_readWidth_22 (v1 : Int32) (h : mx_H)  : mx_D (7, mm_X11_readWidth, 22, [.ref 47, .int v1, mx_junk], []) h = some (some (.int ((-1))), h) := by
  refine Eq.trans (q_iconst (x := (-1)) dX11_readWidth_22 rfl) ?_
  exact q_retI dX11_readWidth_23 rfl
theorem e_X11_readWidth_28 (v1 : Int32) (s0 : Int32) (h : mx_H)  : mx_D (7, mm_X11_readWidth, 28, [.ref 47, .int v1, mx_junk], [.int s0]) h = (mx_C mm_X11_in [.int s0, .int 1, .int v1] h).bind (fun o => mx_D (7, mm_X11_readWidth, 36, [.ref 47, .int v1, .int s0], o.1.toList ++ [.ref 47]) o.2) := by
  refine Eq.trans (q_istore_n (L' := [.ref 47, .int v1, .int s0]) dX11_readWidth_28 (Nat.le_of_ble_eq_true rfl) rfl) ?_
  refine Eq.trans (q_aload_n dX11_readWidth_29 rfl rfl) ?_
  refine Eq.trans (q_iload_n dX11_readWidth_30 rfl) ?_
  refine Eq.trans (q_iconst (x := 1) dX11_readWidth_31 rfl) ?_
  refine Eq.trans (q_iload_n dX11_readWidth_32 rfl) ?_
  exact q_call1 (as := [.int s0, .int 1, .int v1]) (rest := [.ref 47]) dX11_readWidth_33 mx_inv_11_84 rfl rfl ⟨Nat.le_of_ble_eq_true rfl, Nat.le_of_ble_eq_true rfl, (Nat.le_of_ble_eq_true rfl)⟩
theorem e_X11_readWidth_36 (v1 : Int32) (v2 : Int32) (s1 : Int32) (h : mx_H)  : mx_D (7, mm_X11_readWidth, 36, [.ref 47, .int v1, .int v2], [.int s1, .ref 47]) h = (mx_C mm_X11_pass [.ref 47, .int s1] h).bind (fun o => mx_D (7, mm_X11_readWidth, 39, [.ref 47, .int v1, .int v2], o.1.toList ++ []) o.2) := by
  exact q_call0 (as := [.int s1]) (rest := []) dX11_readWidth_36 mx_inv_11_127 rfl rfl rfl ⟨Nat.le_of_ble_eq_true rfl, Nat.le_of_ble_eq_true rfl, (Nat.le_of_ble_eq_true rfl)⟩
theorem e_X11_readWidth_39 (v1 : Int32) (v2 : Int32) (s0 : Int32) (h : mx_H)  : mx_D (7, mm_X11_readWidth, 39, [.ref 47, .int v1, .int v2], [.int s0]) h = if s0 = 0 then mx_D (7, mm_X11_readWidth, 66, [.ref 47, .int v1, .int v2], []) h else (if (h.1 47 2) = 2 then mx_D (7, mm_X11_readWidth, 56, [.ref 47, .int v1, .int v2], [.int 1, .ref 47]) h else (mx_D (7, mm_X11_readWidth, 56, [.ref 47, .int v1, .int v2], [.int 0, .ref 47]) h)) := by
  refine Eq.trans (q_if_eq 66 dX11_readWidth_39 rfl) (q_ite2 ?_ ?_)
  · rfl
  · refine Eq.trans (q_aload_n dX11_readWidth_42 rfl rfl) ?_
    refine Eq.trans (q_aload_n dX11_readWidth_43 rfl rfl) ?_
    refine Eq.trans (q_getf dX11_readWidth_44 mx_fld_11_115 (gf_47_2 _)) ?_
    refine Eq.trans (q_iconst (x := 2) dX11_readWidth_47 rfl) ?_
    refine Eq.trans (q_icmp_ne 55 dX11_readWidth_48 rfl) (q_ite2 ?_ ?_)
    · refine Eq.trans (q_iconst (x := 1) dX11_readWidth_51 rfl) ?_
      refine Eq.trans (q_goto 56 dX11_readWidth_52 rfl) ?_
      rfl
    · refine Eq.trans (q_iconst (x := 0) dX11_readWidth_55 rfl) ?_
      rfl
theorem e_X11_readWidth_56 (v1 : Int32) (v2 : Int32) (s1 : Int32) (h : mx_H)  : mx_D (7, mm_X11_readWidth, 56, [.ref 47, .int v1, .int v2], [.int s1, .ref 47]) h = (mx_C mm_X11_pass [.ref 47, .int s1] h).bind (fun o => mx_D (7, mm_X11_readWidth, 59, [.ref 47, .int v1, .int v2], o.1.toList ++ []) o.2) := by
  exact q_call0 (as := [.int s1]) (rest := []) dX11_readWidth_56 mx_inv_11_127 rfl rfl rfl ⟨Nat.le_of_ble_eq_true rfl, Nat.le_of_ble_eq_true rfl, (Nat.le_of_ble_eq_true rfl)⟩
