theorem dX11_number_33 : decode cX11_number 33 = .ok (.getfield 102, 3) := by decide +kernel
theorem dX11_number_36 : decode cX11_number 36 = .ok (.iaload, 1) := by decide +kernel
theorem dX11_number_37 : decode cX11_number 37 = .ok (.bipush 48, 2) := by decide +kernel
theorem dX11_number_39 : decode cX11_number 39 = .ok (.if_icmp .eq 7, 3) := by decide +kernel
theorem dX11_number_42 : decode cX11_number 42 = .ok (.iconst 1, 1) := by decide +kernel
theorem dX11_number_43 : decode cX11_number 43 = .ok (.goto 4, 3) := by decide +kernel
theorem dX11_number_46 : decode cX11_number 46 = .ok (.iconst 0, 1) := by decide +kernel
theorem dX11_number_47 : decode cX11_number 47 = .ok (.istore_n 2, 1) := by decide +kernel
theorem dX11_number_48 : decode cX11_number 48 = .ok (.iconst 0, 1) := by decide +kernel
theorem dX11_number_49 : decode cX11_number 49 = .ok (.istore_n 3, 1) := by decide +kernel
theorem dX11_number_50 : decode cX11_number 50 = .ok (.aload_n 0, 1) := by decide +kernel
theorem dX11_number_51 : decode cX11_number 51 = .ok (.getfield 102, 3) := by decide +kernel
theorem dX11_number_54 : decode cX11_number 54 = .ok (.istore 4, 2) := by decide +kernel
theorem dX11_number_56 : decode cX11_number 56 = .ok (.iload 4, 2) := by decide +kernel
theorem dX11_number_58 : decode cX11_number 58 = .ok (.aload_n 0, 1) := by decide +kernel
theorem dX11_number_59 : decode cX11_number 59 = .ok (.getfield 99, 3) := by decide +kernel
theorem dX11_number_62 : decode cX11_number 62 = .ok (.if_icmp .ge 40, 3) := by decide +kernel
theorem dX11_number_65 : decode cX11_number 65 = .ok (.iload_n 2, 1) := by decide +kernel
theorem dX11_number_66 : decode cX11_number 66 = .ok (.ifCond .eq 36, 3) := by decide +kernel
theorem dX11_number_69 : decode cX11_number 69 = .ok (.aload_n 0, 1) := by decide +kernel
theorem dX11_number_70 : decode cX11_number 70 = .ok (.getfield 7, 3) := by decide +kernel
theorem dX11_number_73 : decode cX11_number 73 = .ok (.iload 4, 2) := by decide +kernel
theorem dX11_number_75 : decode cX11_number 75 = .ok (.iaload, 1) := by decide +kernel
theorem dX11_number_76 : decode cX11_number 76 = .ok (.invokestatic 96, 3) := by decide +kernel
theorem dX11_number_79 : decode cX11_number 79 = .ok (.istore_n 2, 1) := by decide +kernel
theorem dX11_number_80 : decode cX11_number 80 = .ok (.bipush 10, 2) := by decide +kernel
theorem dX11_number_82 : decode cX11_number 82 = .ok (.iload_n 3, 1) := by decide +kernel
theorem dX11_number_83 : decode cX11_number 83 = .ok (.imul, 1) := by decide +kernel
theorem dX11_number_84 : decode cX11_number 84 = .ok (.aload_n 0, 1) := by decide +kernel
theorem dX11_number_85 : decode cX11_number 85 = .ok (.getfield 7, 3) := by decide +kernel
theorem dX11_number_88 : decode cX11_number 88 = .ok (.iload 4, 2) := by decide +kernel
theorem dX11_number_90 : decode cX11_number 90 = .ok (.iaload, 1) := by decide +kernel
theorem dX11_number_91 : decode cX11_number 91 = .ok (.iadd, 1) := by decide +kernel
theorem dX11_number_92 : decode cX11_number 92 = .ok (.bipush 48, 2) := by decide +kernel
theorem dX11_number_94 : decode cX11_number 94 = .ok (.isub, 1) := by decide +kernel
theorem dX11_number_95 : decode cX11_number 95 = .ok (.istore_n 3, 1) := by decide +kernel
theorem dX11_number_96 : decode cX11_number 96 = .ok (.iinc 4 1, 3) := by decide +kernel
theorem dX11_number_99 : decode cX11_number 99 = .ok (.goto (-43), 3) := by decide +kernel
theorem dX11_number_102 : decode cX11_number 102 = .ok (.iload_n 2, 1) := by decide +kernel
theorem dX11_number_103 : decode cX11_number 103 = .ok (.ifCond .eq 7, 3) := by decide +kernel
theorem dX11_number_106 : decode cX11_number 106 = .ok (.iload_n 3, 1) := by decide +kernel
theorem dX11_number_107 : decode cX11_number 107 = .ok (.goto 4, 3) := by decide +kernel
theorem dX11_number_110 : decode cX11_number 110 = .ok (.iconst (-1), 1) := by decide +kernel
theorem dX11_number_111 : decode cX11_number 111 = .ok (.ireturn, 1) := by decide +kernel
theorem dX11_kindOf_0 : decode cX11_kindOf 0 = .ok (.iconst (-1), 1) := by decide +kernel
theorem dX11_kindOf_1 : decode cX11_kindOf 1 = .ok (.istore 4, 2) := by decide +kernel
theorem dX11_kindOf_3 : decode cX11_kindOf 3 = .ok (.lload_n 0, 1) := by decide +kernel
theorem dX11_kindOf_4 : decode cX11_kindOf 4 = .ok (.ldc2_w 131, 3) := by decide +kernel
theorem dX11_kindOf_7 : decode cX11_kindOf 7 = .ok (.lcmp, 1) := by decide +kernel
theorem dX11_kindOf_8 : decode cX11_kindOf 8 = .ok (.ifCond .ne 13, 3) := by decide +kernel
theorem dX11_kindOf_11 : decode cX11_kindOf 11 = .ok (.lload_n 2, 1) := by decide +kernel
theorem dX11_kindOf_12 : decode cX11_kindOf 12 = .ok (.lconst 0, 1) := by decide +kernel
theorem dX11_kindOf_13 : decode cX11_kindOf 13 = .ok (.lcmp, 1) := by decide +kernel
theorem dX11_kindOf_14 : decode cX11_kindOf 14 = .ok (.ifCond .ne 7, 3) := by decide +kernel
theorem dX11_kindOf_17 : decode cX11_kindOf 17 = .ok (.iconst 4, 1) := by decide +kernel
theorem dX11_kindOf_18 : decode cX11_kindOf 18 = .ok (.goto 5, 3) := by decide +kernel
theorem dX11_kindOf_21 : decode cX11_kindOf 21 = .ok (.iload 4, 2) := by decide +kernel
theorem dX11_kindOf_23 : decode cX11_kindOf 23 = .ok (.istore 4, 2) := by decide +kernel
theorem dX11_kindOf_25 : decode cX11_kindOf 25 = .ok (.lload_n 0, 1) := by decide +kernel
theorem dX11_kindOf_26 : decode cX11_kindOf 26 = .ok (.ldc2_w 133, 3) := by decide +kernel
theorem dX11_kindOf_29 : decode cX11_kindOf 29 = .ok (.lcmp, 1) := by decide +kernel
theorem dX11_kindOf_30 : decode cX11_kindOf 30 = .ok (.ifCond .ne 13, 3) := by decide +kernel
theorem dX11_kindOf_33 : decode cX11_kindOf 33 = .ok (.lload_n 2, 1) := by decide +kernel
theorem dX11_kindOf_34 : decode cX11_kindOf 34 = .ok (.lconst 0, 1) := by decide +kernel
theorem dX11_kindOf_35 : decode cX11_kindOf 35 = .ok (.lcmp, 1) := by decide +kernel
theorem dX11_kindOf_36 : decode cX11_kindOf 36 = .ok (.ifCond .ne 7, 3) := by decide +kernel
theorem dX11_kindOf_39 : decode cX11_kindOf 39 = .ok (.iconst 5, 1) := by decide +kernel
theorem dX11_kindOf_40 : decode cX11_kindOf 40 = .ok (.goto 5, 3) := by decide +kernel
theorem dX11_kindOf_43 : decode cX11_kindOf 43 = .ok (.iload 4, 2) := by decide +kernel
theorem dX11_kindOf_45 : decode cX11_kindOf 45 = .ok (.istore 4, 2) := by decide +kernel
theorem dX11_kindOf_47 : decode cX11_kindOf 47 = .ok (.lload_n 0, 1) := by decide +kernel
theorem dX11_kindOf_48 : decode cX11_kindOf 48 = .ok (.ldc2_w 135, 3) := by decide +kernel
theorem dX11_kindOf_51 : decode cX11_kindOf 51 = .ok (.lcmp, 1) := by decide +kernel
theorem dX11_kindOf_52 : decode cX11_kindOf 52 = .ok (.ifCond .ne 14, 3) := by decide +kernel
theorem dX11_kindOf_55 : decode cX11_kindOf 55 = .ok (.lload_n 2, 1) := by decide +kernel
theorem dX11_kindOf_56 : decode cX11_kindOf 56 = .ok (.lconst 0, 1) := by decide +kernel
theorem dX11_kindOf_57 : decode cX11_kindOf 57 = .ok (.lcmp, 1) := by decide +kernel
theorem dX11_kindOf_58 : decode cX11_kindOf 58 = .ok (.ifCond .ne 8, 3) := by decide +kernel
theorem dX11_kindOf_61 : decode cX11_kindOf 61 = .ok (.bipush 6, 2) := by decide +kernel
theorem dX11_kindOf_63 : decode cX11_kindOf 63 = .ok (.goto 5, 3) := by decide +kernel
theorem dX11_kindOf_66 : decode cX11_kindOf 66 = .ok (.iload 4, 2) := by decide +kernel
theorem dX11_kindOf_68 : decode cX11_kindOf 68 = .ok (.istore 4, 2) := by decide +kernel
theorem dX11_kindOf_70 : decode cX11_kindOf 70 = .ok (.lload_n 0, 1) := by decide +kernel
theorem dX11_kindOf_71 : decode cX11_kindOf 71 = .ok (.ldc2_w 137, 3) := by decide +kernel
theorem dX11_kindOf_74 : decode cX11_kindOf 74 = .ok (.lcmp, 1) := by decide +kernel
theorem dX11_kindOf_75 : decode cX11_kindOf 75 = .ok (.ifCond .ne 14, 3) := by decide +kernel
theorem dX11_kindOf_78 : decode cX11_kindOf 78 = .ok (.lload_n 2, 1) := by decide +kernel
theorem dX11_kindOf_79 : decode cX11_kindOf 79 = .ok (.lconst 0, 1) := by decide +kernel
theorem dX11_kindOf_80 : decode cX11_kindOf 80 = .ok (.lcmp, 1) := by decide +kernel
theorem dX11_kindOf_81 : decode cX11_kindOf 81 = .ok (.ifCond .ne 8, 3) := by decide +kernel
theorem dX11_kindOf_84 : decode cX11_kindOf 84 = .ok (.bipush 7, 2) := by decide +kernel
theorem dX11_kindOf_86 : decode cX11_kindOf 86 = .ok (.goto 5, 3) := by decide +kernel
theorem dX11_kindOf_89 : decode cX11_kindOf 89 = .ok (.iload 4, 2) := by decide +kernel
theorem dX11_kindOf_91 : decode cX11_kindOf 91 = .ok (.istore 4, 2) := by decide +kernel
theorem dX11_kindOf_93 : decode cX11_kindOf 93 = .ok (.lload_n 0, 1) := by decide +kernel
theorem dX11_kindOf_94 : decode cX11_kindOf 94 = .ok (.ldc2_w 139, 3) := by decide +kernel
theorem dX11_kindOf_97 : decode cX11_kindOf 97 = .ok (.lcmp, 1) := by decide +kernel
theorem dX11_kindOf_98 : decode cX11_kindOf 98 = .ok (.ifCond .ne 14, 3) := by decide +kernel
theorem dX11_kindOf_101 : decode cX11_kindOf 101 = .ok (.lload_n 2, 1) := by decide +kernel
theorem dX11_kindOf_102 : decode cX11_kindOf 102 = .ok (.lconst 0, 1) := by decide +kernel
theorem dX11_kindOf_103 : decode cX11_kindOf 103 = .ok (.lcmp, 1) := by decide +kernel
theorem dX11_kindOf_104 : decode cX11_kindOf 104 = .ok (.ifCond .ne 8, 3) := by decide +kernel
theorem dX11_kindOf_107 : decode cX11_kindOf 107 = .ok (.bipush 8, 2) := by decide +kernel
theorem dX11_kindOf_109 : decode cX11_kindOf 109 = .ok (.goto 5, 3) := by decide +kernel
theorem dX11_kindOf_112 : decode cX11_kindOf 112 = .ok (.iload 4, 2) := by decide +kernel
theorem dX11_kindOf_114 : decode cX11_kindOf 114 = .ok (.istore 4, 2) := by decide +kernel
theorem dX11_kindOf_116 : decode cX11_kindOf 116 = .ok (.lload_n 0, 1) := by decide +kernel
theorem dX11_kindOf_117 : decode cX11_kindOf 117 = .ok (.ldc2_w 141, 3) := by decide +kernel
theorem dX11_kindOf_120 : decode cX11_kindOf 120 = .ok (.lcmp, 1) := by decide +kernel
theorem dX11_kindOf_121 : decode cX11_kindOf 121 = .ok (.ifCond .ne 14, 3) := by decide +kernel
theorem dX11_kindOf_124 : decode cX11_kindOf 124 = .ok (.lload_n 2, 1) := by decide +kernel
theorem dX11_kindOf_125 : decode cX11_kindOf 125 = .ok (.lconst 0, 1) := by decide +kernel
theorem dX11_kindOf_126 : decode cX11_kindOf 126 = .ok (.lcmp, 1) := by decide +kernel
theorem dX11_kindOf_127 : decode cX11_kindOf 127 = .ok (.ifCond .ne 8, 3) := by decide +kernel
theorem dX11_kindOf_130 : decode cX11_kindOf 130 = .ok (.bipush 9, 2) := by decide +kernel
theorem dX11_kindOf_132 : decode cX11_kindOf 132 = .ok (.goto 5, 3) := by decide +kernel
theorem dX11_kindOf_135 : decode cX11_kindOf 135 = .ok (.iload 4, 2) := by decide +kernel
theorem dX11_kindOf_137 : decode cX11_kindOf 137 = .ok (.istore 4, 2) := by decide +kernel
theorem dX11_kindOf_139 : decode cX11_kindOf 139 = .ok (.lload_n 0, 1) := by decide +kernel
theorem dX11_kindOf_140 : decode cX11_kindOf 140 = .ok (.ldc2_w 143, 3) := by decide +kernel
theorem dX11_kindOf_143 : decode cX11_kindOf 143 = .ok (.lcmp, 1) := by decide +kernel
theorem dX11_kindOf_144 : decode cX11_kindOf 144 = .ok (.ifCond .ne 14, 3) := by decide +kernel
theorem dX11_kindOf_147 : decode cX11_kindOf 147 = .ok (.lload_n 2, 1) := by decide +kernel
theorem dX11_kindOf_148 : decode cX11_kindOf 148 = .ok (.lconst 0, 1) := by decide +kernel
theorem dX11_kindOf_149 : decode cX11_kindOf 149 = .ok (.lcmp, 1) := by decide +kernel
theorem dX11_kindOf_150 : decode cX11_kindOf 150 = .ok (.ifCond .ne 8, 3) := by decide +kernel
theorem dX11_kindOf_153 : decode cX11_kindOf 153 = .ok (.bipush 10, 2) := by decide +kernel
theorem dX11_kindOf_155 : decode cX11_kindOf 155 = .ok (.goto 5, 3) := by decide +kernel
theorem dX11_kindOf_158 : decode cX11_kindOf 158 = .ok (.iload 4, 2) := by decide +kernel
theorem dX11_kindOf_160 : decode cX11_kindOf 160 = .ok (.istore 4, 2) := by decide +kernel
theorem dX11_kindOf_162 : decode cX11_kindOf 162 = .ok (.lload_n 0, 1) := by decide +kernel
theorem dX11_kindOf_163 : decode cX11_kindOf 163 = .ok (.ldc2_w 145, 3) := by decide +kernel
theorem dX11_kindOf_166 : decode cX11_kindOf 166 = .ok (.lcmp, 1) := by decide +kernel
theorem dX11_kindOf_167 : decode cX11_kindOf 167 = .ok (.ifCond .ne 14, 3) := by decide +kernel
theorem dX11_kindOf_170 : decode cX11_kindOf 170 = .ok (.lload_n 2, 1) := by decide +kernel
theorem dX11_kindOf_171 : decode cX11_kindOf 171 = .ok (.lconst 0, 1) := by decide +kernel
theorem dX11_kindOf_172 : decode cX11_kindOf 172 = .ok (.lcmp, 1) := by decide +kernel
theorem dX11_kindOf_173 : decode cX11_kindOf 173 = .ok (.ifCond .ne 8, 3) := by decide +kernel
theorem dX11_kindOf_176 : decode cX11_kindOf 176 = .ok (.bipush 11, 2) := by decide +kernel
theorem dX11_kindOf_178 : decode cX11_kindOf 178 = .ok (.goto 5, 3) := by decide +kernel
theorem dX11_kindOf_181 : decode cX11_kindOf 181 = .ok (.iload 4, 2) := by decide +kernel
theorem dX11_kindOf_183 : decode cX11_kindOf 183 = .ok (.istore 4, 2) := by decide +kernel
theorem dX11_kindOf_185 : decode cX11_kindOf 185 = .ok (.lload_n 0, 1) := by decide +kernel
theorem dX11_kindOf_186 : decode cX11_kindOf 186 = .ok (.ldc2_w 147, 3) := by decide +kernel
theorem dX11_kindOf_189 : decode cX11_kindOf 189 = .ok (.lcmp, 1) := by decide +kernel
theorem dX11_kindOf_190 : decode cX11_kindOf 190 = .ok (.ifCond .ne 14, 3) := by decide +kernel
theorem dX11_kindOf_193 : decode cX11_kindOf 193 = .ok (.lload_n 2, 1) := by decide +kernel
theorem dX11_kindOf_194 : decode cX11_kindOf 194 = .ok (.lconst 0, 1) := by decide +kernel
theorem dX11_kindOf_195 : decode cX11_kindOf 195 = .ok (.lcmp, 1) := by decide +kernel
theorem dX11_kindOf_196 : decode cX11_kindOf 196 = .ok (.ifCond .ne 8, 3) := by decide +kernel
theorem dX11_kindOf_199 : decode cX11_kindOf 199 = .ok (.bipush 12, 2) := by decide +kernel
theorem dX11_kindOf_201 : decode cX11_kindOf 201 = .ok (.goto 5, 3) := by decide +kernel
theorem dX11_kindOf_204 : decode cX11_kindOf 204 = .ok (.iload 4, 2) := by decide +kernel
theorem dX11_kindOf_206 : decode cX11_kindOf 206 = .ok (.istore 4, 2) := by decide +kernel
theorem dX11_kindOf_208 : decode cX11_kindOf 208 = .ok (.lload_n 0, 1) := by decide +kernel
theorem dX11_kindOf_209 : decode cX11_kindOf 209 = .ok (.ldc2_w 149, 3) := by decide +kernel
theorem dX11_kindOf_212 : decode cX11_kindOf 212 = .ok (.lcmp, 1) := by decide +kernel
theorem dX11_kindOf_213 : decode cX11_kindOf 213 = .ok (.ifCond .ne 14, 3) := by decide +kernel
theorem dX11_kindOf_216 : decode cX11_kindOf 216 = .ok (.lload_n 2, 1) := by decide +kernel
theorem dX11_kindOf_217 : decode cX11_kindOf 217 = .ok (.lconst 0, 1) := by decide +kernel
theorem dX11_kindOf_218 : decode cX11_kindOf 218 = .ok (.lcmp, 1) := by decide +kernel
theorem dX11_kindOf_219 : decode cX11_kindOf 219 = .ok (.ifCond .ne 8, 3) := by decide +kernel
theorem dX11_kindOf_222 : decode cX11_kindOf 222 = .ok (.bipush 13, 2) := by decide +kernel
theorem dX11_kindOf_224 : decode cX11_kindOf 224 = .ok (.goto 5, 3) := by decide +kernel
theorem dX11_kindOf_227 : decode cX11_kindOf 227 = .ok (.iload 4, 2) := by decide +kernel
theorem dX11_kindOf_229 : decode cX11_kindOf 229 = .ok (.istore 4, 2) := by decide +kernel
theorem dX11_kindOf_231 : decode cX11_kindOf 231 = .ok (.lload_n 0, 1) := by decide +kernel
theorem dX11_kindOf_232 : decode cX11_kindOf 232 = .ok (.ldc2_w 151, 3) := by decide +kernel
theorem dX11_kindOf_235 : decode cX11_kindOf 235 = .ok (.lcmp, 1) := by decide +kernel
theorem dX11_kindOf_236 : decode cX11_kindOf 236 = .ok (.ifCond .ne 14, 3) := by decide +kernel
theorem dX11_kindOf_239 : decode cX11_kindOf 239 = .ok (.lload_n 2, 1) := by decide +kernel
theorem dX11_kindOf_240 : decode cX11_kindOf 240 = .ok (.lconst 0, 1) := by decide +kernel
theorem dX11_kindOf_241 : decode cX11_kindOf 241 = .ok (.lcmp, 1) := by decide +kernel
theorem dX11_kindOf_242 : decode cX11_kindOf 242 = .ok (.ifCond .ne 8, 3) := by decide +kernel
theorem dX11_kindOf_245 : decode cX11_kindOf 245 = .ok (.bipush 14, 2) := by decide +kernel
theorem dX11_kindOf_247 : decode cX11_kindOf 247 = .ok (.goto 5, 3) := by decide +kernel
theorem dX11_kindOf_250 : decode cX11_kindOf 250 = .ok (.iload 4, 2) := by decide +kernel
theorem dX11_kindOf_252 : decode cX11_kindOf 252 = .ok (.istore 4, 2) := by decide +kernel
theorem dX11_kindOf_254 : decode cX11_kindOf 254 = .ok (.lload_n 0, 1) := by decide +kernel
theorem dX11_kindOf_255 : decode cX11_kindOf 255 = .ok (.ldc2_w 153, 3) := by decide +kernel
theorem dX11_kindOf_258 : decode cX11_kindOf 258 = .ok (.lcmp, 1) := by decide +kernel
theorem dX11_kindOf_259 : decode cX11_kindOf 259 = .ok (.ifCond .ne 14, 3) := by decide +kernel
theorem dX11_kindOf_262 : decode cX11_kindOf 262 = .ok (.lload_n 2, 1) := by decide +kernel
theorem dX11_kindOf_263 : decode cX11_kindOf 263 = .ok (.lconst 0, 1) := by decide +kernel
theorem dX11_kindOf_264 : decode cX11_kindOf 264 = .ok (.lcmp, 1) := by decide +kernel
theorem dX11_kindOf_265 : decode cX11_kindOf 265 = .ok (.ifCond .ne 8, 3) := by decide +kernel
theorem dX11_kindOf_268 : decode cX11_kindOf 268 = .ok (.bipush 15, 2) := by decide +kernel
theorem dX11_kindOf_270 : decode cX11_kindOf 270 = .ok (.goto 5, 3) := by decide +kernel
theorem dX11_kindOf_273 : decode cX11_kindOf 273 = .ok (.iload 4, 2) := by decide +kernel
theorem dX11_kindOf_275 : decode cX11_kindOf 275 = .ok (.istore 4, 2) := by decide +kernel
theorem dX11_kindOf_277 : decode cX11_kindOf 277 = .ok (.lload_n 0, 1) := by decide +kernel
theorem dX11_kindOf_278 : decode cX11_kindOf 278 = .ok (.ldc2_w 155, 3) := by decide +kernel
theorem dX11_kindOf_281 : decode cX11_kindOf 281 = .ok (.lcmp, 1) := by decide +kernel
theorem dX11_kindOf_282 : decode cX11_kindOf 282 = .ok (.ifCond .ne 14, 3) := by decide +kernel
theorem dX11_kindOf_285 : decode cX11_kindOf 285 = .ok (.lload_n 2, 1) := by decide +kernel
theorem dX11_kindOf_286 : decode cX11_kindOf 286 = .ok (.lconst 0, 1) := by decide +kernel
theorem dX11_kindOf_287 : decode cX11_kindOf 287 = .ok (.lcmp, 1) := by decide +kernel
theorem dX11_kindOf_288 : decode cX11_kindOf 288 = .ok (.ifCond .ne 8, 3) := by decide +kernel
theorem dX11_kindOf_291 : decode cX11_kindOf 291 = .ok (.bipush 16, 2) := by decide +kernel
theorem dX11_kindOf_293 : decode cX11_kindOf 293 = .ok (.goto 5, 3) := by decide +kernel
theorem dX11_kindOf_296 : decode cX11_kindOf 296 = .ok (.iload 4, 2) := by decide +kernel
theorem dX11_kindOf_298 : decode cX11_kindOf 298 = .ok (.istore 4, 2) := by decide +kernel
theorem dX11_kindOf_300 : decode cX11_kindOf 300 = .ok (.lload_n 0, 1) := by decide +kernel
theorem dX11_kindOf_301 : decode cX11_kindOf 301 = .ok (.ldc2_w 157, 3) := by decide +kernel
theorem dX11_kindOf_304 : decode cX11_kindOf 304 = .ok (.lcmp, 1) := by decide +kernel
theorem dX11_kindOf_305 : decode cX11_kindOf 305 = .ok (.ifCond .ne 14, 3) := by decide +kernel
theorem dX11_kindOf_308 : decode cX11_kindOf 308 = .ok (.lload_n 2, 1) := by decide +kernel
theorem dX11_kindOf_309 : decode cX11_kindOf 309 = .ok (.lconst 0, 1) := by decide +kernel
theorem dX11_kindOf_310 : decode cX11_kindOf 310 = .ok (.lcmp, 1) := by decide +kernel
theorem dX11_kindOf_311 : decode cX11_kindOf 311 = .ok (.ifCond .ne 8, 3) := by decide +kernel
theorem dX11_kindOf_314 : decode cX11_kindOf 314 = .ok (.bipush 17, 2) := by decide +kernel
theorem dX11_kindOf_316 : decode cX11_kindOf 316 = .ok (.goto 5, 3) := by decide +kernel
theorem dX11_kindOf_319 : decode cX11_kindOf 319 = .ok (.iload 4, 2) := by decide +kernel
theorem dX11_kindOf_321 : decode cX11_kindOf 321 = .ok (.istore 4, 2) := by decide +kernel
theorem dX11_kindOf_323 : decode cX11_kindOf 323 = .ok (.lload_n 0, 1) := by decide +kernel
theorem dX11_kindOf_324 : decode cX11_kindOf 324 = .ok (.ldc2_w 159, 3) := by decide +kernel
theorem dX11_kindOf_327 : decode cX11_kindOf 327 = .ok (.lcmp, 1) := by decide +kernel
theorem dX11_kindOf_328 : decode cX11_kindOf 328 = .ok (.ifCond .ne 14, 3) := by decide +kernel
theorem dX11_kindOf_331 : decode cX11_kindOf 331 = .ok (.lload_n 2, 1) := by decide +kernel
theorem dX11_kindOf_332 : decode cX11_kindOf 332 = .ok (.lconst 0, 1) := by decide +kernel
theorem dX11_kindOf_333 : decode cX11_kindOf 333 = .ok (.lcmp, 1) := by decide +kernel
theorem dX11_kindOf_334 : decode cX11_kindOf 334 = .ok (.ifCond .ne 8, 3) := by decide +kernel
theorem dX11_kindOf_337 : decode cX11_kindOf 337 = .ok (.bipush 18, 2) := by decide +kernel
theorem dX11_kindOf_339 : decode cX11_kindOf 339 = .ok (.goto 5, 3) := by decide +kernel
theorem dX11_kindOf_342 : decode cX11_kindOf 342 = .ok (.iload 4, 2) := by decide +kernel
theorem dX11_kindOf_344 : decode cX11_kindOf 344 = .ok (.istore 4, 2) := by decide +kernel
theorem dX11_kindOf_346 : decode cX11_kindOf 346 = .ok (.lload_n 0, 1) := by decide +kernel
theorem dX11_kindOf_347 : decode cX11_kindOf 347 = .ok (.ldc2_w 161, 3) := by decide +kernel
theorem dX11_kindOf_350 : decode cX11_kindOf 350 = .ok (.lcmp, 1) := by decide +kernel
theorem dX11_kindOf_351 : decode cX11_kindOf 351 = .ok (.ifCond .ne 14, 3) := by decide +kernel
theorem dX11_kindOf_354 : decode cX11_kindOf 354 = .ok (.lload_n 2, 1) := by decide +kernel
theorem dX11_kindOf_355 : decode cX11_kindOf 355 = .ok (.lconst 0, 1) := by decide +kernel
theorem dX11_kindOf_356 : decode cX11_kindOf 356 = .ok (.lcmp, 1) := by decide +kernel
theorem dX11_kindOf_357 : decode cX11_kindOf 357 = .ok (.ifCond .ne 8, 3) := by decide +kernel
theorem dX11_kindOf_360 : decode cX11_kindOf 360 = .ok (.bipush 19, 2) := by decide +kernel
theorem dX11_kindOf_362 : decode cX11_kindOf 362 = .ok (.goto 5, 3) := by decide +kernel
theorem dX11_kindOf_365 : decode cX11_kindOf 365 = .ok (.iload 4, 2) := by decide +kernel
theorem dX11_kindOf_367 : decode cX11_kindOf 367 = .ok (.istore 4, 2) := by decide +kernel
theorem dX11_kindOf_369 : decode cX11_kindOf 369 = .ok (.lload_n 0, 1) := by decide +kernel
theorem dX11_kindOf_370 : decode cX11_kindOf 370 = .ok (.ldc2_w 163, 3) := by decide +kernel
theorem dX11_kindOf_373 : decode cX11_kindOf 373 = .ok (.lcmp, 1) := by decide +kernel
theorem dX11_kindOf_374 : decode cX11_kindOf 374 = .ok (.ifCond .ne 14, 3) := by decide +kernel
theorem dX11_kindOf_377 : decode cX11_kindOf 377 = .ok (.lload_n 2, 1) := by decide +kernel
theorem dX11_kindOf_378 : decode cX11_kindOf 378 = .ok (.lconst 0, 1) := by decide +kernel
theorem dX11_kindOf_379 : decode cX11_kindOf 379 = .ok (.lcmp, 1) := by decide +kernel
theorem dX11_kindOf_380 : decode cX11_kindOf 380 = .ok (.ifCond .ne 8, 3) := by decide +kernel
theorem dX11_kindOf_383 : decode cX11_kindOf 383 = .ok (.bipush 20, 2) := by decide +kernel
theorem dX11_kindOf_385 : decode cX11_kindOf 385 = .ok (.goto 5, 3) := by decide +kernel
theorem dX11_kindOf_388 : decode cX11_kindOf 388 = .ok (.iload 4, 2) := by decide +kernel
theorem dX11_kindOf_390 : decode cX11_kindOf 390 = .ok (.istore 4, 2) := by decide +kernel
theorem dX11_kindOf_392 : decode cX11_kindOf 392 = .ok (.lload_n 0, 1) := by decide +kernel
theorem dX11_kindOf_393 : decode cX11_kindOf 393 = .ok (.ldc2_w 165, 3) := by decide +kernel
theorem dX11_kindOf_396 : decode cX11_kindOf 396 = .ok (.lcmp, 1) := by decide +kernel
theorem dX11_kindOf_397 : decode cX11_kindOf 397 = .ok (.ifCond .ne 14, 3) := by decide +kernel
theorem dX11_kindOf_400 : decode cX11_kindOf 400 = .ok (.lload_n 2, 1) := by decide +kernel
theorem dX11_kindOf_401 : decode cX11_kindOf 401 = .ok (.lconst 0, 1) := by decide +kernel
theorem dX11_kindOf_402 : decode cX11_kindOf 402 = .ok (.lcmp, 1) := by decide +kernel
theorem dX11_kindOf_403 : decode cX11_kindOf 403 = .ok (.ifCond .ne 8, 3) := by decide +kernel
theorem dX11_kindOf_406 : decode cX11_kindOf 406 = .ok (.bipush 21, 2) := by decide +kernel
theorem dX11_kindOf_408 : decode cX11_kindOf 408 = .ok (.goto 5, 3) := by decide +kernel
theorem dX11_kindOf_411 : decode cX11_kindOf 411 = .ok (.iload 4, 2) := by decide +kernel
theorem dX11_kindOf_413 : decode cX11_kindOf 413 = .ok (.istore 4, 2) := by decide +kernel
theorem dX11_kindOf_415 : decode cX11_kindOf 415 = .ok (.lload_n 0, 1) := by decide +kernel
theorem dX11_kindOf_416 : decode cX11_kindOf 416 = .ok (.ldc2_w 167, 3) := by decide +kernel
theorem dX11_kindOf_419 : decode cX11_kindOf 419 = .ok (.lcmp, 1) := by decide +kernel
theorem dX11_kindOf_420 : decode cX11_kindOf 420 = .ok (.ifCond .ne 14, 3) := by decide +kernel
theorem dX11_kindOf_423 : decode cX11_kindOf 423 = .ok (.lload_n 2, 1) := by decide +kernel
theorem dX11_kindOf_424 : decode cX11_kindOf 424 = .ok (.lconst 0, 1) := by decide +kernel
theorem dX11_kindOf_425 : decode cX11_kindOf 425 = .ok (.lcmp, 1) := by decide +kernel
theorem dX11_kindOf_426 : decode cX11_kindOf 426 = .ok (.ifCond .ne 8, 3) := by decide +kernel
theorem dX11_kindOf_429 : decode cX11_kindOf 429 = .ok (.bipush 22, 2) := by decide +kernel
theorem dX11_kindOf_431 : decode cX11_kindOf 431 = .ok (.goto 5, 3) := by decide +kernel
theorem dX11_kindOf_434 : decode cX11_kindOf 434 = .ok (.iload 4, 2) := by decide +kernel
theorem dX11_kindOf_436 : decode cX11_kindOf 436 = .ok (.istore 4, 2) := by decide +kernel
theorem dX11_kindOf_438 : decode cX11_kindOf 438 = .ok (.lload_n 0, 1) := by decide +kernel
theorem dX11_kindOf_439 : decode cX11_kindOf 439 = .ok (.ldc2_w 169, 3) := by decide +kernel
theorem dX11_kindOf_442 : decode cX11_kindOf 442 = .ok (.lcmp, 1) := by decide +kernel
theorem dX11_kindOf_443 : decode cX11_kindOf 443 = .ok (.ifCond .ne 14, 3) := by decide +kernel
theorem dX11_kindOf_446 : decode cX11_kindOf 446 = .ok (.lload_n 2, 1) := by decide +kernel
theorem dX11_kindOf_447 : decode cX11_kindOf 447 = .ok (.lconst 0, 1) := by decide +kernel
theorem dX11_kindOf_448 : decode cX11_kindOf 448 = .ok (.lcmp, 1) := by decide +kernel
theorem dX11_kindOf_449 : decode cX11_kindOf 449 = .ok (.ifCond .ne 8, 3) := by decide +kernel
theorem dX11_kindOf_452 : decode cX11_kindOf 452 = .ok (.bipush 23, 2) := by decide +kernel
theorem dX11_kindOf_454 : decode cX11_kindOf 454 = .ok (.goto 5, 3) := by decide +kernel
theorem dX11_kindOf_457 : decode cX11_kindOf 457 = .ok (.iload 4, 2) := by decide +kernel
theorem dX11_kindOf_459 : decode cX11_kindOf 459 = .ok (.istore 4, 2) := by decide +kernel
theorem dX11_kindOf_461 : decode cX11_kindOf 461 = .ok (.lload_n 0, 1) := by decide +kernel
theorem dX11_kindOf_462 : decode cX11_kindOf 462 = .ok (.ldc2_w 171, 3) := by decide +kernel
theorem dX11_kindOf_465 : decode cX11_kindOf 465 = .ok (.lcmp, 1) := by decide +kernel
theorem dX11_kindOf_466 : decode cX11_kindOf 466 = .ok (.ifCond .ne 14, 3) := by decide +kernel
theorem dX11_kindOf_469 : decode cX11_kindOf 469 = .ok (.lload_n 2, 1) := by decide +kernel
theorem dX11_kindOf_470 : decode cX11_kindOf 470 = .ok (.lconst 0, 1) := by decide +kernel
theorem dX11_kindOf_471 : decode cX11_kindOf 471 = .ok (.lcmp, 1) := by decide +kernel
theorem dX11_kindOf_472 : decode cX11_kindOf 472 = .ok (.ifCond .ne 8, 3) := by decide +kernel
theorem dX11_kindOf_475 : decode cX11_kindOf 475 = .ok (.bipush 24, 2) := by decide +kernel
theorem dX11_kindOf_477 : decode cX11_kindOf 477 = .ok (.goto 5, 3) := by decide +kernel
theorem dX11_kindOf_480 : decode cX11_kindOf 480 = .ok (.iload 4, 2) := by decide +kernel
theorem dX11_kindOf_482 : decode cX11_kindOf 482 = .ok (.istore 4, 2) := by decide +kernel
theorem dX11_kindOf_484 : decode cX11_kindOf 484 = .ok (.lload_n 0, 1) := by decide +kernel
theorem dX11_kindOf_485 : decode cX11_kindOf 485 = .ok (.ldc2_w 173, 3) := by decide +kernel
theorem dX11_kindOf_488 : decode cX11_kindOf 488 = .ok (.lcmp, 1) := by decide +kernel
theorem dX11_kindOf_489 : decode cX11_kindOf 489 = .ok (.ifCond .ne 14, 3) := by decide +kernel
theorem dX11_kindOf_492 : decode cX11_kindOf 492 = .ok (.lload_n 2, 1) := by decide +kernel
theorem dX11_kindOf_493 : decode cX11_kindOf 493 = .ok (.lconst 0, 1) := by decide +kernel
theorem dX11_kindOf_494 : decode cX11_kindOf 494 = .ok (.lcmp, 1) := by decide +kernel
theorem dX11_kindOf_495 : decode cX11_kindOf 495 = .ok (.ifCond .ne 8, 3) := by decide +kernel
theorem dX11_kindOf_498 : decode cX11_kindOf 498 = .ok (.bipush 25, 2) := by decide +kernel
theorem dX11_kindOf_500 : decode cX11_kindOf 500 = .ok (.goto 5, 3) := by decide +kernel
theorem dX11_kindOf_503 : decode cX11_kindOf 503 = .ok (.iload 4, 2) := by decide +kernel
theorem dX11_kindOf_505 : decode cX11_kindOf 505 = .ok (.istore 4, 2) := by decide +kernel
theorem dX11_kindOf_507 : decode cX11_kindOf 507 = .ok (.lload_n 0, 1) := by decide +kernel
theorem dX11_kindOf_508 : decode cX11_kindOf 508 = .ok (.ldc2_w 175, 3) := by decide +kernel
theorem dX11_kindOf_511 : decode cX11_kindOf 511 = .ok (.lcmp, 1) := by decide +kernel
theorem dX11_kindOf_512 : decode cX11_kindOf 512 = .ok (.ifCond .ne 14, 3) := by decide +kernel
theorem dX11_kindOf_515 : decode cX11_kindOf 515 = .ok (.lload_n 2, 1) := by decide +kernel
theorem dX11_kindOf_516 : decode cX11_kindOf 516 = .ok (.lconst 0, 1) := by decide +kernel
theorem dX11_kindOf_517 : decode cX11_kindOf 517 = .ok (.lcmp, 1) := by decide +kernel
theorem dX11_kindOf_518 : decode cX11_kindOf 518 = .ok (.ifCond .ne 8, 3) := by decide +kernel
theorem dX11_kindOf_521 : decode cX11_kindOf 521 = .ok (.bipush 26, 2) := by decide +kernel
theorem dX11_kindOf_523 : decode cX11_kindOf 523 = .ok (.goto 5, 3) := by decide +kernel
theorem dX11_kindOf_526 : decode cX11_kindOf 526 = .ok (.iload 4, 2) := by decide +kernel
theorem dX11_kindOf_528 : decode cX11_kindOf 528 = .ok (.istore 4, 2) := by decide +kernel
theorem dX11_kindOf_530 : decode cX11_kindOf 530 = .ok (.lload_n 0, 1) := by decide +kernel
theorem dX11_kindOf_531 : decode cX11_kindOf 531 = .ok (.ldc2_w 177, 3) := by decide +kernel
theorem dX11_kindOf_534 : decode cX11_kindOf 534 = .ok (.lcmp, 1) := by decide +kernel
theorem dX11_kindOf_535 : decode cX11_kindOf 535 = .ok (.ifCond .ne 14, 3) := by decide +kernel
theorem dX11_kindOf_538 : decode cX11_kindOf 538 = .ok (.lload_n 2, 1) := by decide +kernel
theorem dX11_kindOf_539 : decode cX11_kindOf 539 = .ok (.lconst 0, 1) := by decide +kernel
theorem dX11_kindOf_540 : decode cX11_kindOf 540 = .ok (.lcmp, 1) := by decide +kernel
theorem dX11_kindOf_541 : decode cX11_kindOf 541 = .ok (.ifCond .ne 8, 3) := by decide +kernel
theorem dX11_kindOf_544 : decode cX11_kindOf 544 = .ok (.bipush 27, 2) := by decide +kernel
theorem dX11_kindOf_546 : decode cX11_kindOf 546 = .ok (.goto 5, 3) := by decide +kernel
theorem dX11_kindOf_549 : decode cX11_kindOf 549 = .ok (.iload 4, 2) := by decide +kernel
theorem dX11_kindOf_551 : decode cX11_kindOf 551 = .ok (.istore 4, 2) := by decide +kernel
theorem dX11_kindOf_553 : decode cX11_kindOf 553 = .ok (.lload_n 0, 1) := by decide +kernel
theorem dX11_kindOf_554 : decode cX11_kindOf 554 = .ok (.ldc2_w 179, 3) := by decide +kernel
theorem dX11_kindOf_557 : decode cX11_kindOf 557 = .ok (.lcmp, 1) := by decide +kernel
theorem dX11_kindOf_558 : decode cX11_kindOf 558 = .ok (.ifCond .ne 14, 3) := by decide +kernel
theorem dX11_kindOf_561 : decode cX11_kindOf 561 = .ok (.lload_n 2, 1) := by decide +kernel
theorem dX11_kindOf_562 : decode cX11_kindOf 562 = .ok (.lconst 0, 1) := by decide +kernel
theorem dX11_kindOf_563 : decode cX11_kindOf 563 = .ok (.lcmp, 1) := by decide +kernel
theorem dX11_kindOf_564 : decode cX11_kindOf 564 = .ok (.ifCond .ne 8, 3) := by decide +kernel
theorem dX11_kindOf_567 : decode cX11_kindOf 567 = .ok (.bipush 28, 2) := by decide +kernel
theorem dX11_kindOf_569 : decode cX11_kindOf 569 = .ok (.goto 5, 3) := by decide +kernel
theorem dX11_kindOf_572 : decode cX11_kindOf 572 = .ok (.iload 4, 2) := by decide +kernel
theorem dX11_kindOf_574 : decode cX11_kindOf 574 = .ok (.istore 4, 2) := by decide +kernel
theorem dX11_kindOf_576 : decode cX11_kindOf 576 = .ok (.lload_n 0, 1) := by decide +kernel
theorem dX11_kindOf_577 : decode cX11_kindOf 577 = .ok (.ldc2_w 181, 3) := by decide +kernel
theorem dX11_kindOf_580 : decode cX11_kindOf 580 = .ok (.lcmp, 1) := by decide +kernel
theorem dX11_kindOf_581 : decode cX11_kindOf 581 = .ok (.ifCond .ne 14, 3) := by decide +kernel
theorem dX11_kindOf_584 : decode cX11_kindOf 584 = .ok (.lload_n 2, 1) := by decide +kernel
theorem dX11_kindOf_585 : decode cX11_kindOf 585 = .ok (.lconst 0, 1) := by decide +kernel
theorem dX11_kindOf_586 : decode cX11_kindOf 586 = .ok (.lcmp, 1) := by decide +kernel
theorem dX11_kindOf_587 : decode cX11_kindOf 587 = .ok (.ifCond .ne 8, 3) := by decide +kernel
theorem dX11_kindOf_590 : decode cX11_kindOf 590 = .ok (.bipush 29, 2) := by decide +kernel
theorem dX11_kindOf_592 : decode cX11_kindOf 592 = .ok (.goto 5, 3) := by decide +kernel
theorem dX11_kindOf_595 : decode cX11_kindOf 595 = .ok (.iload 4, 2) := by decide +kernel
theorem dX11_kindOf_597 : decode cX11_kindOf 597 = .ok (.istore 4, 2) := by decide +kernel
theorem dX11_kindOf_599 : decode cX11_kindOf 599 = .ok (.lload_n 0, 1) := by decide +kernel
theorem dX11_kindOf_600 : decode cX11_kindOf 600 = .ok (.ldc2_w 183, 3) := by decide +kernel
theorem dX11_kindOf_603 : decode cX11_kindOf 603 = .ok (.lcmp, 1) := by decide +kernel
theorem dX11_kindOf_604 : decode cX11_kindOf 604 = .ok (.ifCond .ne 14, 3) := by decide +kernel
theorem dX11_kindOf_607 : decode cX11_kindOf 607 = .ok (.lload_n 2, 1) := by decide +kernel
theorem dX11_kindOf_608 : decode cX11_kindOf 608 = .ok (.lconst 0, 1) := by decide +kernel
theorem dX11_kindOf_609 : decode cX11_kindOf 609 = .ok (.lcmp, 1) := by decide +kernel
theorem dX11_kindOf_610 : decode cX11_kindOf 610 = .ok (.ifCond .ne 8, 3) := by decide +kernel
theorem dX11_kindOf_613 : decode cX11_kindOf 613 = .ok (.bipush 33, 2) := by decide +kernel
theorem dX11_kindOf_615 : decode cX11_kindOf 615 = .ok (.goto 5, 3) := by decide +kernel
theorem dX11_kindOf_618 : decode cX11_kindOf 618 = .ok (.iload 4, 2) := by decide +kernel
theorem dX11_kindOf_620 : decode cX11_kindOf 620 = .ok (.istore 4, 2) := by decide +kernel
theorem dX11_kindOf_622 : decode cX11_kindOf 622 = .ok (.lload_n 0, 1) := by decide +kernel
theorem dX11_kindOf_623 : decode cX11_kindOf 623 = .ok (.ldc2_w 185, 3) := by decide +kernel
theorem dX11_kindOf_626 : decode cX11_kindOf 626 = .ok (.lcmp, 1) := by decide +kernel
theorem dX11_kindOf_627 : decode cX11_kindOf 627 = .ok (.ifCond .ne 14, 3) := by decide +kernel
theorem dX11_kindOf_630 : decode cX11_kindOf 630 = .ok (.lload_n 2, 1) := by decide +kernel
theorem dX11_kindOf_631 : decode cX11_kindOf 631 = .ok (.lconst 0, 1) := by decide +kernel
theorem dX11_kindOf_632 : decode cX11_kindOf 632 = .ok (.lcmp, 1) := by decide +kernel
theorem dX11_kindOf_633 : decode cX11_kindOf 633 = .ok (.ifCond .ne 8, 3) := by decide +kernel
theorem dX11_kindOf_636 : decode cX11_kindOf 636 = .ok (.bipush 34, 2) := by decide +kernel
theorem dX11_kindOf_638 : decode cX11_kindOf 638 = .ok (.goto 5, 3) := by decide +kernel
theorem dX11_kindOf_641 : decode cX11_kindOf 641 = .ok (.iload 4, 2) := by decide +kernel
theorem dX11_kindOf_643 : decode cX11_kindOf 643 = .ok (.istore 4, 2) := by decide +kernel
theorem dX11_kindOf_645 : decode cX11_kindOf 645 = .ok (.lload_n 0, 1) := by decide +kernel
theorem dX11_kindOf_646 : decode cX11_kindOf 646 = .ok (.ldc2_w 187, 3) := by decide +kernel
theorem dX11_kindOf_649 : decode cX11_kindOf 649 = .ok (.lcmp, 1) := by decide +kernel
theorem dX11_kindOf_650 : decode cX11_kindOf 650 = .ok (.ifCond .ne 14, 3) := by decide +kernel
theorem dX11_kindOf_653 : decode cX11_kindOf 653 = .ok (.lload_n 2, 1) := by decide +kernel
theorem dX11_kindOf_654 : decode cX11_kindOf 654 = .ok (.lconst 0, 1) := by decide +kernel
theorem dX11_kindOf_655 : decode cX11_kindOf 655 = .ok (.lcmp, 1) := by decide +kernel
theorem dX11_kindOf_656 : decode cX11_kindOf 656 = .ok (.ifCond .ne 8, 3) := by decide +kernel
theorem dX11_kindOf_659 : decode cX11_kindOf 659 = .ok (.bipush 35, 2) := by decide +kernel
theorem dX11_kindOf_661 : decode cX11_kindOf 661 = .ok (.goto 5, 3) := by decide +kernel
theorem dX11_kindOf_664 : decode cX11_kindOf 664 = .ok (.iload 4, 2) := by decide +kernel
theorem dX11_kindOf_666 : decode cX11_kindOf 666 = .ok (.istore 4, 2) := by decide +kernel
theorem dX11_kindOf_668 : decode cX11_kindOf 668 = .ok (.iload 4, 2) := by decide +kernel
theorem dX11_kindOf_670 : decode cX11_kindOf 670 = .ok (.ireturn, 1) := by decide +kernel
theorem dX11_isName_0 : decode cX11_isName 0 = .ok (.aload_n 0, 1) := by decide +kernel
theorem dX11_isName_1 : decode cX11_isName 1 = .ok (.getfield 115, 3) := by decide +kernel
theorem dX11_isName_4 : decode cX11_isName 4 = .ok (.iconst 3, 1) := by decide +kernel
theorem dX11_isName_5 : decode cX11_isName 5 = .ok (.if_icmp .ne 34, 3) := by decide +kernel
theorem dX11_isName_8 : decode cX11_isName 8 = .ok (.aload_n 0, 1) := by decide +kernel
theorem dX11_isName_9 : decode cX11_isName 9 = .ok (.getfield 99, 3) := by decide +kernel
theorem dX11_isName_12 : decode cX11_isName 12 = .ok (.aload_n 0, 1) := by decide +kernel
theorem dX11_isName_13 : decode cX11_isName 13 = .ok (.getfield 102, 3) := by decide +kernel
theorem dX11_isName_16 : decode cX11_isName 16 = .ok (.isub, 1) := by decide +kernel
theorem dX11_isName_17 : decode cX11_isName 17 = .ok (.iconst 4, 1) := by decide +kernel
theorem dX11_isName_18 : decode cX11_isName 18 = .ok (.if_icmp .gt 21, 3) := by decide +kernel
theorem dX11_isName_21 : decode cX11_isName 21 = .ok (.aload_n 0, 1) := by decide +kernel
theorem dX11_isName_22 : decode cX11_isName 22 = .ok (.getfield 105, 3) := by decide +kernel
theorem dX11_isName_25 : decode cX11_isName 25 = .ok (.aload_n 0, 1) := by decide +kernel
theorem dX11_isName_26 : decode cX11_isName 26 = .ok (.getfield 109, 3) := by decide +kernel
theorem dX11_isName_29 : decode cX11_isName 29 = .ok (.invokestatic 189, 3) := by decide +kernel
theorem dX11_isName_32 : decode cX11_isName 32 = .ok (.ifCond .ge 7, 3) := by decide +kernel
theorem dX11_isName_35 : decode cX11_isName 35 = .ok (.iconst 1, 1) := by decide +kernel
theorem dX11_isName_36 : decode cX11_isName 36 = .ok (.goto 4, 3) := by decide +kernel
theorem dX11_isName_39 : decode cX11_isName 39 = .ok (.iconst 0, 1) := by decide +kernel
theorem dX11_isName_40 : decode cX11_isName 40 = .ok (.istore_n 1, 1) := by decide +kernel
theorem dX11_isName_41 : decode cX11_isName 41 = .ok (.aload_n 0, 1) := by decide +kernel
theorem dX11_isName_42 : decode cX11_isName 42 = .ok (.getfield 102, 3) := by decide +kernel
theorem dX11_isName_45 : decode cX11_isName 45 = .ok (.istore_n 2, 1) := by decide +kernel
theorem dX11_isName_46 : decode cX11_isName 46 = .ok (.iload_n 2, 1) := by decide +kernel
theorem dX11_isName_47 : decode cX11_isName 47 = .ok (.aload_n 0, 1) := by decide +kernel
theorem dX11_isName_48 : decode cX11_isName 48 = .ok (.getfield 99, 3) := by decide +kernel
theorem dX11_isName_51 : decode cX11_isName 51 = .ok (.if_icmp .ge 23, 3) := by decide +kernel
theorem dX11_isName_54 : decode cX11_isName 54 = .ok (.iload_n 1, 1) := by decide +kernel
theorem dX11_isName_55 : decode cX11_isName 55 = .ok (.ifCond .eq 19, 3) := by decide +kernel
theorem dX11_isName_58 : decode cX11_isName 58 = .ok (.aload_n 0, 1) := by decide +kernel
theorem dX11_isName_59 : decode cX11_isName 59 = .ok (.getfield 7, 3) := by decide +kernel
theorem dX11_isName_62 : decode cX11_isName 62 = .ok (.iload_n 2, 1) := by decide +kernel
theorem dX11_isName_63 : decode cX11_isName 63 = .ok (.iaload, 1) := by decide +kernel
theorem dX11_isName_64 : decode cX11_isName 64 = .ok (.invokestatic 92, 3) := by decide +kernel
theorem dX11_isName_67 : decode cX11_isName 67 = .ok (.istore_n 1, 1) := by decide +kernel
theorem dX11_isName_68 : decode cX11_isName 68 = .ok (.iinc 2 1, 3) := by decide +kernel
theorem dX11_isName_71 : decode cX11_isName 71 = .ok (.goto (-25), 3) := by decide +kernel
theorem dX11_isName_74 : decode cX11_isName 74 = .ok (.iload_n 1, 1) := by decide +kernel
theorem dX11_isName_75 : decode cX11_isName 75 = .ok (.ifCond .eq 51, 3) := by decide +kernel
theorem dX11_isName_78 : decode cX11_isName 78 = .ok (.aload_n 0, 1) := by decide +kernel
theorem dX11_isName_79 : decode cX11_isName 79 = .ok (.getfield 105, 3) := by decide +kernel
theorem dX11_isName_82 : decode cX11_isName 82 = .ok (.ldc2_w 193, 3) := by decide +kernel
theorem dX11_isName_85 : decode cX11_isName 85 = .ok (.lcmp, 1) := by decide +kernel
theorem dX11_isName_86 : decode cX11_isName 86 = .ok (.ifCond .eq 40, 3) := by decide +kernel
theorem dX11_isName_89 : decode cX11_isName 89 = .ok (.aload_n 0, 1) := by decide +kernel
theorem dX11_isName_90 : decode cX11_isName 90 = .ok (.getfield 105, 3) := by decide +kernel
theorem dX11_isName_93 : decode cX11_isName 93 = .ok (.ldc2_w 195, 3) := by decide +kernel
theorem dX11_isName_96 : decode cX11_isName 96 = .ok (.lcmp, 1) := by decide +kernel
theorem dX11_isName_97 : decode cX11_isName 97 = .ok (.ifCond .eq 29, 3) := by decide +kernel
theorem dX11_isName_100 : decode cX11_isName 100 = .ok (.aload_n 0, 1) := by decide +kernel
theorem dX11_isName_101 : decode cX11_isName 101 = .ok (.getfield 105, 3) := by decide +kernel
theorem dX11_isName_104 : decode cX11_isName 104 = .ok (.ldc2_w 197, 3) := by decide +kernel
theorem dX11_isName_107 : decode cX11_isName 107 = .ok (.lcmp, 1) := by decide +kernel
theorem dX11_isName_108 : decode cX11_isName 108 = .ok (.ifCond .eq 18, 3) := by decide +kernel
theorem dX11_isName_111 : decode cX11_isName 111 = .ok (.aload_n 0, 1) := by decide +kernel
theorem dX11_isName_112 : decode cX11_isName 112 = .ok (.getfield 105, 3) := by decide +kernel
theorem dX11_isName_115 : decode cX11_isName 115 = .ok (.ldc2_w 199, 3) := by decide +kernel
theorem dX11_isName_118 : decode cX11_isName 118 = .ok (.lcmp, 1) := by decide +kernel
theorem dX11_isName_119 : decode cX11_isName 119 = .ok (.ifCond .eq 7, 3) := by decide +kernel
theorem dX11_isName_122 : decode cX11_isName 122 = .ok (.iconst 1, 1) := by decide +kernel
theorem dX11_isName_123 : decode cX11_isName 123 = .ok (.goto 4, 3) := by decide +kernel
theorem dX11_isName_126 : decode cX11_isName 126 = .ok (.iconst 0, 1) := by decide +kernel
theorem dX11_isName_127 : decode cX11_isName 127 = .ok (.ireturn, 1) := by decide +kernel
theorem dX11_readWidth_0 : decode cX11_readWidth 0 = .ok (.aload_n 0, 1) := by decide +kernel
theorem dX11_readWidth_1 : decode cX11_readWidth 1 = .ok (.ldc2_w 201, 3) := by decide +kernel
theorem dX11_readWidth_4 : decode cX11_readWidth 4 = .ok (.lconst 0, 1) := by decide +kernel
theorem dX11_readWidth_5 : decode cX11_readWidth 5 = .ok (.invokevirtual 203, 3) := by decide +kernel
theorem dX11_readWidth_8 : decode cX11_readWidth 8 = .ok (.ifCond .eq 14, 3) := by decide +kernel
theorem dX11_readWidth_11 : decode cX11_readWidth 11 = .ok (.aload_n 0, 1) := by decide +kernel
theorem dX11_readWidth_12 : decode cX11_readWidth 12 = .ok (.ldc2_w 207, 3) := by decide +kernel
theorem dX11_readWidth_15 : decode cX11_readWidth 15 = .ok (.lconst 0, 1) := by decide +kernel
theorem dX11_readWidth_16 : decode cX11_readWidth 16 = .ok (.invokevirtual 203, 3) := by decide +kernel
theorem dX11_readWidth_19 : decode cX11_readWidth 19 = .ok (.ifCond .ne 5, 3) := by decide +kernel
theorem dX11_readWidth_22 : decode cX11_readWidth 22 = .ok (.iconst (-1), 1) := by decide +kernel
theorem dX11_readWidth_23 : decode cX11_readWidth 23 = .ok (.ireturn, 1) := by decide +kernel
theorem dX11_readWidth_24 : decode cX11_readWidth 24 = .ok (.aload_n 0, 1) := by decide +kernel
theorem dX11_readWidth_25 : decode cX11_readWidth 25 = .ok (.invokevirtual 209, 3) := by decide +kernel
theorem dX11_readWidth_28 : decode cX11_readWidth 28 = .ok (.istore_n 2, 1) := by decide +kernel
theorem dX11_readWidth_29 : decode cX11_readWidth 29 = .ok (.aload_n 0, 1) := by decide +kernel
theorem dX11_readWidth_30 : decode cX11_readWidth 30 = .ok (.iload_n 2, 1) := by decide +kernel
theorem dX11_readWidth_31 : decode cX11_readWidth 31 = .ok (.iconst 1, 1) := by decide +kernel
theorem dX11_readWidth_32 : decode cX11_readWidth 32 = .ok (.iload_n 1, 1) := by decide +kernel
theorem dX11_readWidth_33 : decode cX11_readWidth 33 = .ok (.invokestatic 84, 3) := by decide +kernel
theorem dX11_readWidth_36 : decode cX11_readWidth 36 = .ok (.invokevirtual 127, 3) := by decide +kernel
theorem dX11_readWidth_39 : decode cX11_readWidth 39 = .ok (.ifCond .eq 27, 3) := by decide +kernel
theorem dX11_readWidth_42 : decode cX11_readWidth 42 = .ok (.aload_n 0, 1) := by decide +kernel
theorem dX11_readWidth_43 : decode cX11_readWidth 43 = .ok (.aload_n 0, 1) := by decide +kernel
theorem dX11_readWidth_44 : decode cX11_readWidth 44 = .ok (.getfield 115, 3) := by decide +kernel
theorem dX11_readWidth_47 : decode cX11_readWidth 47 = .ok (.iconst 2, 1) := by decide +kernel
theorem dX11_readWidth_48 : decode cX11_readWidth 48 = .ok (.if_icmp .ne 7, 3) := by decide +kernel
theorem dX11_readWidth_51 : decode cX11_readWidth 51 = .ok (.iconst 1, 1) := by decide +kernel
theorem dX11_readWidth_52 : decode cX11_readWidth 52 = .ok (.goto 4, 3) := by decide +kernel
theorem dX11_readWidth_55 : decode cX11_readWidth 55 = .ok (.iconst 0, 1) := by decide +kernel
theorem dX11_readWidth_56 : decode cX11_readWidth 56 = .ok (.invokevirtual 127, 3) := by decide +kernel
theorem dX11_readWidth_59 : decode cX11_readWidth 59 = .ok (.ifCond .eq 7, 3) := by decide +kernel
theorem dX11_readWidth_62 : decode cX11_readWidth 62 = .ok (.iload_n 2, 1) := by decide +kernel
theorem dX11_readWidth_63 : decode cX11_readWidth 63 = .ok (.goto 4, 3) := by decide +kernel
theorem dX11_readWidth_66 : decode cX11_readWidth 66 = .ok (.iconst (-1), 1) := by decide +kernel
theorem dX11_readWidth_67 : decode cX11_readWidth 67 = .ok (.ireturn, 1) := by decide +kernel
theorem dX11_readSort_0 : decode cX11_readSort 0 = .ok (.aload_n 0, 1) := by decide +kernel
theorem dX11_readSort_1 : decode cX11_readSort 1 = .ok (.getfield 115, 3) := by decide +kernel
theorem dX11_readSort_4 : decode cX11_readSort 4 = .ok (.iconst 3, 1) := by decide +kernel
theorem dX11_readSort_5 : decode cX11_readSort 5 = .ok (.if_icmp .ne 20, 3) := by decide +kernel
theorem dX11_readSort_8 : decode cX11_readSort 8 = .ok (.aload_n 0, 1) := by decide +kernel
theorem dX11_readSort_9 : decode cX11_readSort 9 = .ok (.ldc2_w 193, 3) := by decide +kernel
theorem dX11_readSort_12 : decode cX11_readSort 12 = .ok (.lconst 0, 1) := by decide +kernel
theorem dX11_readSort_13 : decode cX11_readSort 13 = .ok (.invokevirtual 203, 3) := by decide +kernel
theorem dX11_readSort_16 : decode cX11_readSort 16 = .ok (.ifCond .eq 7, 3) := by decide +kernel
theorem dX11_readSort_19 : decode cX11_readSort 19 = .ok (.iconst 0, 1) := by decide +kernel
theorem dX11_readSort_20 : decode cX11_readSort 20 = .ok (.goto 4, 3) := by decide +kernel
theorem dX11_readSort_23 : decode cX11_readSort 23 = .ok (.iconst (-1), 1) := by decide +kernel
theorem dX11_readSort_24 : decode cX11_readSort 24 = .ok (.ireturn, 1) := by decide +kernel
theorem dX11_readSort_25 : decode cX11_readSort 25 = .ok (.aload_n 0, 1) := by decide +kernel
theorem dX11_readSort_26 : decode cX11_readSort 26 = .ok (.aload_n 0, 1) := by decide +kernel
theorem dX11_readSort_27 : decode cX11_readSort 27 = .ok (.getfield 115, 3) := by decide +kernel
theorem dX11_readSort_30 : decode cX11_readSort 30 = .ok (.iconst 1, 1) := by decide +kernel
theorem dX11_readSort_31 : decode cX11_readSort 31 = .ok (.if_icmp .ne 7, 3) := by decide +kernel
theorem dX11_readSort_34 : decode cX11_readSort 34 = .ok (.iconst 1, 1) := by decide +kernel
theorem dX11_readSort_35 : decode cX11_readSort 35 = .ok (.goto 4, 3) := by decide +kernel
theorem dX11_readSort_38 : decode cX11_readSort 38 = .ok (.iconst 0, 1) := by decide +kernel
theorem dX11_readSort_39 : decode cX11_readSort 39 = .ok (.invokevirtual 127, 3) := by decide +kernel
theorem dX11_readSort_42 : decode cX11_readSort 42 = .ok (.ifCond .ne 5, 3) := by decide +kernel
theorem dX11_readSort_45 : decode cX11_readSort 45 = .ok (.iconst (-1), 1) := by decide +kernel
theorem dX11_readSort_46 : decode cX11_readSort 46 = .ok (.ireturn, 1) := by decide +kernel
theorem dX11_readSort_47 : decode cX11_readSort 47 = .ok (.aload_n 0, 1) := by decide +kernel
theorem dX11_readSort_48 : decode cX11_readSort 48 = .ok (.getfield 115, 3) := by decide +kernel
theorem dX11_readSort_51 : decode cX11_readSort 51 = .ok (.iconst 3, 1) := by decide +kernel
theorem dX11_readSort_52 : decode cX11_readSort 52 = .ok (.if_icmp .ne 23, 3) := by decide +kernel
theorem dX11_readSort_55 : decode cX11_readSort 55 = .ok (.aload_n 0, 1) := by decide +kernel
theorem dX11_readSort_56 : decode cX11_readSort 56 = .ok (.getfield 105, 3) := by decide +kernel
theorem dX11_readSort_59 : decode cX11_readSort 59 = .ok (.ldc2_w 213, 3) := by decide +kernel
theorem dX11_readSort_62 : decode cX11_readSort 62 = .ok (.lcmp, 1) := by decide +kernel
theorem dX11_readSort_63 : decode cX11_readSort 63 = .ok (.ifCond .ne 12, 3) := by decide +kernel
theorem dX11_readSort_66 : decode cX11_readSort 66 = .ok (.aload_n 0, 1) := by decide +kernel
theorem dX11_readSort_67 : decode cX11_readSort 67 = .ok (.getfield 109, 3) := by decide +kernel
theorem dX11_readSort_70 : decode cX11_readSort 70 = .ok (.lconst 0, 1) := by decide +kernel
theorem dX11_readSort_71 : decode cX11_readSort 71 = .ok (.lcmp, 1) := by decide +kernel
theorem dX11_readSort_72 : decode cX11_readSort 72 = .ok (.ifCond .eq 9, 3) := by decide +kernel
theorem dX11_readSort_75 : decode cX11_readSort 75 = .ok (.aload_n 0, 1) := by decide +kernel
theorem dX11_readSort_76 : decode cX11_readSort 76 = .ok (.iconst 4, 1) := by decide +kernel
theorem dX11_readSort_77 : decode cX11_readSort 77 = .ok (.invokevirtual 215, 3) := by decide +kernel
theorem dX11_readSort_80 : decode cX11_readSort 80 = .ok (.ireturn, 1) := by decide +kernel
theorem dX11_readSort_81 : decode cX11_readSort 81 = .ok (.aload_n 0, 1) := by decide +kernel
theorem dX11_readSort_82 : decode cX11_readSort 82 = .ok (.invokevirtual 124, 3) := by decide +kernel
theorem dX11_readSort_85 : decode cX11_readSort 85 = .ok (.aload_n 0, 1) := by decide +kernel
theorem dX11_readSort_86 : decode cX11_readSort 86 = .ok (.aload_n 0, 1) := by decide +kernel
theorem dX11_readSort_87 : decode cX11_readSort 87 = .ok (.getfield 115, 3) := by decide +kernel
theorem dX11_readSort_90 : decode cX11_readSort 90 = .ok (.iconst 1, 1) := by decide +kernel
theorem dX11_readSort_91 : decode cX11_readSort 91 = .ok (.if_icmp .ne 7, 3) := by decide +kernel
theorem dX11_readSort_94 : decode cX11_readSort 94 = .ok (.iconst 1, 1) := by decide +kernel
theorem dX11_readSort_95 : decode cX11_readSort 95 = .ok (.goto 4, 3) := by decide +kernel
theorem dX11_readSort_98 : decode cX11_readSort 98 = .ok (.iconst 0, 1) := by decide +kernel
theorem dX11_readSort_99 : decode cX11_readSort 99 = .ok (.invokevirtual 127, 3) := by decide +kernel
theorem dX11_readSort_102 : decode cX11_readSort 102 = .ok (.ifCond .eq 31, 3) := by decide +kernel
theorem dX11_readSort_105 : decode cX11_readSort 105 = .ok (.aload_n 0, 1) := by decide +kernel
theorem dX11_readSort_106 : decode cX11_readSort 106 = .ok (.iconst 1, 1) := by decide +kernel
theorem dX11_readSort_107 : decode cX11_readSort 107 = .ok (.invokevirtual 215, 3) := by decide +kernel
theorem dX11_readSort_110 : decode cX11_readSort 110 = .ok (.ifCond .lt 23, 3) := by decide +kernel
theorem dX11_readSort_113 : decode cX11_readSort 113 = .ok (.aload_n 0, 1) := by decide +kernel
theorem dX11_readSort_114 : decode cX11_readSort 114 = .ok (.aload_n 0, 1) := by decide +kernel
theorem dX11_readSort_115 : decode cX11_readSort 115 = .ok (.getfield 115, 3) := by decide +kernel
theorem dX11_readSort_118 : decode cX11_readSort 118 = .ok (.iconst 1, 1) := by decide +kernel
theorem dX11_readSort_119 : decode cX11_readSort 119 = .ok (.if_icmp .ne 7, 3) := by decide +kernel
theorem dX11_readSort_122 : decode cX11_readSort 122 = .ok (.iconst 1, 1) := by decide +kernel
theorem dX11_readSort_123 : decode cX11_readSort 123 = .ok (.goto 4, 3) := by decide +kernel
theorem dX11_readSort_126 : decode cX11_readSort 126 = .ok (.iconst 0, 1) := by decide +kernel
theorem dX11_readSort_127 : decode cX11_readSort 127 = .ok (.invokevirtual 127, 3) := by decide +kernel
theorem dX11_readSort_130 : decode cX11_readSort 130 = .ok (.ifCond .ne 5, 3) := by decide +kernel
theorem dX11_readSort_133 : decode cX11_readSort 133 = .ok (.iconst (-1), 1) := by decide +kernel
theorem dX11_readSort_134 : decode cX11_readSort 134 = .ok (.ireturn, 1) := by decide +kernel
theorem dX11_readSort_135 : decode cX11_readSort 135 = .ok (.aload_n 0, 1) := by decide +kernel
theorem dX11_readSort_136 : decode cX11_readSort 136 = .ok (.iconst 4, 1) := by decide +kernel
theorem dX11_readSort_137 : decode cX11_readSort 137 = .ok (.invokevirtual 215, 3) := by decide +kernel
theorem dX11_readSort_140 : decode cX11_readSort 140 = .ok (.istore_n 1, 1) := by decide +kernel
theorem dX11_readSort_141 : decode cX11_readSort 141 = .ok (.iload_n 1, 1) := by decide +kernel
theorem dX11_readSort_142 : decode cX11_readSort 142 = .ok (.ifCond .le 29, 3) := by decide +kernel
theorem dX11_readSort_145 : decode cX11_readSort 145 = .ok (.aload_n 0, 1) := by decide +kernel
theorem dX11_readSort_146 : decode cX11_readSort 146 = .ok (.aload_n 0, 1) := by decide +kernel
theorem dX11_readSort_147 : decode cX11_readSort 147 = .ok (.getfield 115, 3) := by decide +kernel
theorem dX11_readSort_150 : decode cX11_readSort 150 = .ok (.iconst 2, 1) := by decide +kernel
theorem dX11_readSort_151 : decode cX11_readSort 151 = .ok (.if_icmp .ne 7, 3) := by decide +kernel
theorem dX11_readSort_154 : decode cX11_readSort 154 = .ok (.iconst 1, 1) := by decide +kernel
theorem dX11_readSort_155 : decode cX11_readSort 155 = .ok (.goto 4, 3) := by decide +kernel
theorem dX11_readSort_158 : decode cX11_readSort 158 = .ok (.iconst 0, 1) := by decide +kernel
theorem dX11_readSort_159 : decode cX11_readSort 159 = .ok (.invokevirtual 127, 3) := by decide +kernel
theorem dX11_readSort_162 : decode cX11_readSort 162 = .ok (.ifCond .eq 9, 3) := by decide +kernel
theorem dX11_readSort_165 : decode cX11_readSort 165 = .ok (.iconst 4, 1) := by decide +kernel
theorem dX11_readSort_166 : decode cX11_readSort 166 = .ok (.iload_n 1, 1) := by decide +kernel
theorem dX11_readSort_167 : decode cX11_readSort 167 = .ok (.iadd, 1) := by decide +kernel
theorem dX11_readSort_168 : decode cX11_readSort 168 = .ok (.goto 4, 3) := by decide +kernel
theorem dX11_readSort_171 : decode cX11_readSort 171 = .ok (.iconst (-1), 1) := by decide +kernel
theorem dX11_readSort_172 : decode cX11_readSort 172 = .ok (.ireturn, 1) := by decide +kernel
theorem dX11_make_0 : decode cX11_make 0 = .ok (.iconst (-1), 1) := by decide +kernel
theorem dX11_make_1 : decode cX11_make 1 = .ok (.istore 8, 2) := by decide +kernel
theorem dX11_make_3 : decode cX11_make 3 = .ok (.iconst 0, 1) := by decide +kernel
theorem dX11_make_4 : decode cX11_make 4 = .ok (.istore 9, 2) := by decide +kernel
theorem dX11_make_6 : decode cX11_make 6 = .ok (.iload 9, 2) := by decide +kernel
theorem dX11_make_8 : decode cX11_make 8 = .ok (.aload_n 0, 1) := by decide +kernel
theorem dX11_make_9 : decode cX11_make 9 = .ok (.getfield 219, 3) := by decide +kernel
theorem dX11_make_12 : decode cX11_make 12 = .ok (.if_icmp .ge 111, 3) := by decide +kernel
theorem dX11_make_15 : decode cX11_make 15 = .ok (.aload_n 0, 1) := by decide +kernel
theorem dX11_make_16 : decode cX11_make 16 = .ok (.getfield 13, 3) := by decide +kernel
theorem dX11_make_19 : decode cX11_make 19 = .ok (.iload 9, 2) := by decide +kernel
theorem dX11_make_21 : decode cX11_make 21 = .ok (.iaload, 1) := by decide +kernel
theorem dX11_make_22 : decode cX11_make 22 = .ok (.iload_n 1, 1) := by decide +kernel
theorem dX11_make_23 : decode cX11_make 23 = .ok (.if_icmp .ne 77, 3) := by decide +kernel
theorem dX11_make_26 : decode cX11_make 26 = .ok (.aload_n 0, 1) := by decide +kernel
theorem dX11_make_27 : decode cX11_make 27 = .ok (.getfield 16, 3) := by decide +kernel
theorem dX11_make_30 : decode cX11_make 30 = .ok (.iload 9, 2) := by decide +kernel
theorem dX11_make_32 : decode cX11_make 32 = .ok (.iaload, 1) := by decide +kernel
theorem dX11_make_33 : decode cX11_make 33 = .ok (.iload_n 2, 1) := by decide +kernel
theorem dX11_make_34 : decode cX11_make 34 = .ok (.if_icmp .ne 66, 3) := by decide +kernel
theorem dX11_make_37 : decode cX11_make 37 = .ok (.aload_n 0, 1) := by decide +kernel
theorem dX11_make_38 : decode cX11_make 38 = .ok (.getfield 19, 3) := by decide +kernel
theorem dX11_make_41 : decode cX11_make 41 = .ok (.iload 9, 2) := by decide +kernel
theorem dX11_make_43 : decode cX11_make 43 = .ok (.iaload, 1) := by decide +kernel
theorem dX11_make_44 : decode cX11_make 44 = .ok (.iload_n 3, 1) := by decide +kernel
theorem dX11_make_45 : decode cX11_make 45 = .ok (.if_icmp .ne 55, 3) := by decide +kernel
theorem dX11_make_48 : decode cX11_make 48 = .ok (.aload_n 0, 1) := by decide +kernel
theorem dX11_make_49 : decode cX11_make 49 = .ok (.getfield 22, 3) := by decide +kernel
theorem dX11_make_52 : decode cX11_make 52 = .ok (.iload 9, 2) := by decide +kernel
theorem dX11_make_54 : decode cX11_make 54 = .ok (.iaload, 1) := by decide +kernel
theorem dX11_make_55 : decode cX11_make 55 = .ok (.iload 4, 2) := by decide +kernel
theorem dX11_make_57 : decode cX11_make 57 = .ok (.if_icmp .ne 43, 3) := by decide +kernel
theorem dX11_make_60 : decode cX11_make 60 = .ok (.aload_n 0, 1) := by decide +kernel
theorem dX11_make_61 : decode cX11_make 61 = .ok (.getfield 25, 3) := by decide +kernel
theorem dX11_make_64 : decode cX11_make 64 = .ok (.iload 9, 2) := by decide +kernel
theorem dX11_make_66 : decode cX11_make 66 = .ok (.iaload, 1) := by decide +kernel
theorem dX11_make_67 : decode cX11_make 67 = .ok (.iload 5, 2) := by decide +kernel
theorem dX11_make_69 : decode cX11_make 69 = .ok (.if_icmp .ne 31, 3) := by decide +kernel
theorem dX11_make_72 : decode cX11_make 72 = .ok (.aload_n 0, 1) := by decide +kernel
theorem dX11_make_73 : decode cX11_make 73 = .ok (.getfield 28, 3) := by decide +kernel
theorem dX11_make_76 : decode cX11_make 76 = .ok (.iload 9, 2) := by decide +kernel
theorem dX11_make_78 : decode cX11_make 78 = .ok (.iaload, 1) := by decide +kernel
theorem dX11_make_79 : decode cX11_make 79 = .ok (.iload 6, 2) := by decide +kernel
theorem dX11_make_81 : decode cX11_make 81 = .ok (.if_icmp .ne 19, 3) := by decide +kernel
theorem dX11_make_84 : decode cX11_make 84 = .ok (.aload_n 0, 1) := by decide +kernel
theorem dX11_make_85 : decode cX11_make 85 = .ok (.getfield 31, 3) := by decide +kernel
theorem dX11_make_88 : decode cX11_make 88 = .ok (.iload 9, 2) := by decide +kernel
theorem dX11_make_90 : decode cX11_make 90 = .ok (.iaload, 1) := by decide +kernel
theorem dX11_make_91 : decode cX11_make 91 = .ok (.iload 7, 2) := by decide +kernel
theorem dX11_make_93 : decode cX11_make 93 = .ok (.if_icmp .ne 7, 3) := by decide +kernel
theorem dX11_make_96 : decode cX11_make 96 = .ok (.iconst 1, 1) := by decide +kernel
theorem dX11_make_97 : decode cX11_make 97 = .ok (.goto 4, 3) := by decide +kernel
theorem dX11_make_100 : decode cX11_make 100 = .ok (.iconst 0, 1) := by decide +kernel
theorem dX11_make_101 : decode cX11_make 101 = .ok (.istore 10, 2) := by decide +kernel
theorem dX11_make_103 : decode cX11_make 103 = .ok (.iload 10, 2) := by decide +kernel
theorem dX11_make_105 : decode cX11_make 105 = .ok (.ifCond .eq 8, 3) := by decide +kernel
theorem dX11_make_108 : decode cX11_make 108 = .ok (.iload 9, 2) := by decide +kernel
theorem dX11_make_110 : decode cX11_make 110 = .ok (.goto 5, 3) := by decide +kernel
theorem dX11_make_113 : decode cX11_make 113 = .ok (.iload 8, 2) := by decide +kernel
theorem dX11_make_115 : decode cX11_make 115 = .ok (.istore 8, 2) := by decide +kernel
theorem dX11_make_117 : decode cX11_make 117 = .ok (.iinc 9 1, 3) := by decide +kernel
theorem dX11_make_120 : decode cX11_make 120 = .ok (.goto (-114), 3) := by decide +kernel
theorem dX11_make_123 : decode cX11_make 123 = .ok (.iload 8, 2) := by decide +kernel
theorem dX11_make_125 : decode cX11_make 125 = .ok (.ifCond .lt 6, 3) := by decide +kernel
theorem dX11_make_128 : decode cX11_make 128 = .ok (.iload 8, 2) := by decide +kernel
theorem dX11_make_130 : decode cX11_make 130 = .ok (.ireturn, 1) := by decide +kernel
theorem dX11_make_131 : decode cX11_make 131 = .ok (.aload_n 0, 1) := by decide +kernel
theorem dX11_make_132 : decode cX11_make 132 = .ok (.getfield 13, 3) := by decide +kernel
theorem dX11_make_135 : decode cX11_make 135 = .ok (.aload_n 0, 1) := by decide +kernel
theorem dX11_make_136 : decode cX11_make 136 = .ok (.getfield 219, 3) := by decide +kernel
theorem dX11_make_139 : decode cX11_make 139 = .ok (.iload_n 1, 1) := by decide +kernel
theorem dX11_make_140 : decode cX11_make 140 = .ok (.iastore, 1) := by decide +kernel
theorem dX11_make_141 : decode cX11_make 141 = .ok (.aload_n 0, 1) := by decide +kernel
theorem dX11_make_142 : decode cX11_make 142 = .ok (.getfield 16, 3) := by decide +kernel
theorem dX11_make_145 : decode cX11_make 145 = .ok (.aload_n 0, 1) := by decide +kernel
theorem dX11_make_146 : decode cX11_make 146 = .ok (.getfield 219, 3) := by decide +kernel
theorem dX11_make_149 : decode cX11_make 149 = .ok (.iload_n 2, 1) := by decide +kernel
theorem dX11_make_150 : decode cX11_make 150 = .ok (.iastore, 1) := by decide +kernel
theorem dX11_make_151 : decode cX11_make 151 = .ok (.aload_n 0, 1) := by decide +kernel
theorem dX11_make_152 : decode cX11_make 152 = .ok (.getfield 19, 3) := by decide +kernel
theorem dX11_make_155 : decode cX11_make 155 = .ok (.aload_n 0, 1) := by decide +kernel
theorem dX11_make_156 : decode cX11_make 156 = .ok (.getfield 219, 3) := by decide +kernel
theorem dX11_make_159 : decode cX11_make 159 = .ok (.iload_n 3, 1) := by decide +kernel
theorem dX11_make_160 : decode cX11_make 160 = .ok (.iastore, 1) := by decide +kernel
theorem dX11_make_161 : decode cX11_make 161 = .ok (.aload_n 0, 1) := by decide +kernel
theorem dX11_make_162 : decode cX11_make 162 = .ok (.getfield 22, 3) := by decide +kernel
theorem dX11_make_165 : decode cX11_make 165 = .ok (.aload_n 0, 1) := by decide +kernel
theorem dX11_make_166 : decode cX11_make 166 = .ok (.getfield 219, 3) := by decide +kernel
theorem dX11_make_169 : decode cX11_make 169 = .ok (.iload 4, 2) := by decide +kernel
theorem dX11_make_171 : decode cX11_make 171 = .ok (.iastore, 1) := by decide +kernel
theorem dX11_make_172 : decode cX11_make 172 = .ok (.aload_n 0, 1) := by decide +kernel
theorem dX11_make_173 : decode cX11_make 173 = .ok (.getfield 25, 3) := by decide +kernel
theorem dX11_make_176 : decode cX11_make 176 = .ok (.aload_n 0, 1) := by decide +kernel
theorem dX11_make_177 : decode cX11_make 177 = .ok (.getfield 219, 3) := by decide +kernel
theorem dX11_make_180 : decode cX11_make 180 = .ok (.iload 5, 2) := by decide +kernel
theorem dX11_make_182 : decode cX11_make 182 = .ok (.iastore, 1) := by decide +kernel
theorem dX11_make_183 : decode cX11_make 183 = .ok (.aload_n 0, 1) := by decide +kernel
theorem dX11_make_184 : decode cX11_make 184 = .ok (.getfield 28, 3) := by decide +kernel
theorem dX11_make_187 : decode cX11_make 187 = .ok (.aload_n 0, 1) := by decide +kernel
theorem dX11_make_188 : decode cX11_make 188 = .ok (.getfield 219, 3) := by decide +kernel
theorem dX11_make_191 : decode cX11_make 191 = .ok (.iload 6, 2) := by decide +kernel
theorem dX11_make_193 : decode cX11_make 193 = .ok (.iastore, 1) := by decide +kernel
theorem dX11_make_194 : decode cX11_make 194 = .ok (.aload_n 0, 1) := by decide +kernel
theorem dX11_make_195 : decode cX11_make 195 = .ok (.getfield 31, 3) := by decide +kernel
theorem dX11_make_198 : decode cX11_make 198 = .ok (.aload_n 0, 1) := by decide +kernel
theorem dX11_make_199 : decode cX11_make 199 = .ok (.getfield 219, 3) := by decide +kernel
theorem dX11_make_202 : decode cX11_make 202 = .ok (.iload 7, 2) := by decide +kernel
theorem dX11_make_204 : decode cX11_make 204 = .ok (.iastore, 1) := by decide +kernel
theorem dX11_make_205 : decode cX11_make 205 = .ok (.aload_n 0, 1) := by decide +kernel
theorem dX11_make_206 : decode cX11_make 206 = .ok (.aload_n 0, 1) := by decide +kernel
theorem dX11_make_207 : decode cX11_make 207 = .ok (.getfield 219, 3) := by decide +kernel
theorem dX11_make_210 : decode cX11_make 210 = .ok (.iconst 1, 1) := by decide +kernel
theorem dX11_make_211 : decode cX11_make 211 = .ok (.iadd, 1) := by decide +kernel
theorem dX11_make_212 : decode cX11_make 212 = .ok (.putfield 219, 3) := by decide +kernel
theorem dX11_make_215 : decode cX11_make 215 = .ok (.aload_n 0, 1) := by decide +kernel
theorem dX11_make_216 : decode cX11_make 216 = .ok (.getfield 219, 3) := by decide +kernel
theorem dX11_make_219 : decode cX11_make 219 = .ok (.iconst 1, 1) := by decide +kernel
theorem dX11_make_220 : decode cX11_make 220 = .ok (.isub, 1) := by decide +kernel
theorem dX11_make_221 : decode cX11_make 221 = .ok (.ireturn, 1) := by decide +kernel
theorem dX11_atom_0 : decode cX11_atom 0 = .ok (.aload_n 0, 1) := by decide +kernel
theorem dX11_atom_1 : decode cX11_atom 1 = .ok (.getfield 105, 3) := by decide +kernel
theorem dX11_atom_4 : decode cX11_atom 4 = .ok (.ldc2_w 199, 3) := by decide +kernel
theorem dX11_atom_7 : decode cX11_atom 7 = .ok (.lcmp, 1) := by decide +kernel
theorem dX11_atom_8 : decode cX11_atom 8 = .ok (.ifCond .ne 24, 3) := by decide +kernel
theorem dX11_atom_11 : decode cX11_atom 11 = .ok (.aload_n 0, 1) := by decide +kernel
theorem dX11_atom_12 : decode cX11_atom 12 = .ok (.getfield 109, 3) := by decide +kernel
theorem dX11_atom_15 : decode cX11_atom 15 = .ok (.lconst 0, 1) := by decide +kernel
theorem dX11_atom_16 : decode cX11_atom 16 = .ok (.lcmp, 1) := by decide +kernel
theorem dX11_atom_17 : decode cX11_atom 17 = .ok (.ifCond .ne 15, 3) := by decide +kernel
theorem dX11_atom_20 : decode cX11_atom 20 = .ok (.aload_n 0, 1) := by decide +kernel
theorem dX11_atom_21 : decode cX11_atom 21 = .ok (.iconst 1, 1) := by decide +kernel
theorem dX11_atom_22 : decode cX11_atom 22 = .ok (.iconst 0, 1) := by decide +kernel
theorem dX11_atom_23 : decode cX11_atom 23 = .ok (.iconst (-1), 1) := by decide +kernel
theorem dX11_atom_24 : decode cX11_atom 24 = .ok (.iconst (-1), 1) := by decide +kernel
theorem dX11_atom_25 : decode cX11_atom 25 = .ok (.iconst (-1), 1) := by decide +kernel
theorem dX11_atom_26 : decode cX11_atom 26 = .ok (.iconst 0, 1) := by decide +kernel
theorem dX11_atom_27 : decode cX11_atom 27 = .ok (.iconst 0, 1) := by decide +kernel
theorem dX11_atom_28 : decode cX11_atom 28 = .ok (.invokevirtual 222, 3) := by decide +kernel
theorem dX11_atom_31 : decode cX11_atom 31 = .ok (.ireturn, 1) := by decide +kernel
theorem dX11_atom_32 : decode cX11_atom 32 = .ok (.aload_n 0, 1) := by decide +kernel
theorem dX11_atom_33 : decode cX11_atom 33 = .ok (.getfield 105, 3) := by decide +kernel
theorem dX11_atom_36 : decode cX11_atom 36 = .ok (.ldc2_w 226, 3) := by decide +kernel
theorem dX11_atom_39 : decode cX11_atom 39 = .ok (.lcmp, 1) := by decide +kernel
theorem dX11_atom_40 : decode cX11_atom 40 = .ok (.ifCond .ne 24, 3) := by decide +kernel
theorem dX11_atom_43 : decode cX11_atom 43 = .ok (.aload_n 0, 1) := by decide +kernel
theorem dX11_atom_44 : decode cX11_atom 44 = .ok (.getfield 109, 3) := by decide +kernel
theorem dX11_atom_47 : decode cX11_atom 47 = .ok (.lconst 0, 1) := by decide +kernel
theorem dX11_atom_48 : decode cX11_atom 48 = .ok (.lcmp, 1) := by decide +kernel
theorem dX11_atom_49 : decode cX11_atom 49 = .ok (.ifCond .ne 15, 3) := by decide +kernel
theorem dX11_atom_52 : decode cX11_atom 52 = .ok (.aload_n 0, 1) := by decide +kernel
theorem dX11_atom_53 : decode cX11_atom 53 = .ok (.iconst 2, 1) := by decide +kernel
theorem dX11_atom_54 : decode cX11_atom 54 = .ok (.iconst 0, 1) := by decide +kernel
theorem dX11_atom_55 : decode cX11_atom 55 = .ok (.iconst (-1), 1) := by decide +kernel
theorem dX11_atom_56 : decode cX11_atom 56 = .ok (.iconst (-1), 1) := by decide +kernel
theorem dX11_atom_57 : decode cX11_atom 57 = .ok (.iconst (-1), 1) := by decide +kernel
theorem dX11_atom_58 : decode cX11_atom 58 = .ok (.iconst 0, 1) := by decide +kernel
theorem dX11_atom_59 : decode cX11_atom 59 = .ok (.iconst 0, 1) := by decide +kernel
theorem dX11_atom_60 : decode cX11_atom 60 = .ok (.invokevirtual 222, 3) := by decide +kernel
theorem dX11_atom_63 : decode cX11_atom 63 = .ok (.ireturn, 1) := by decide +kernel
theorem dX11_atom_64 : decode cX11_atom 64 = .ok (.aload_n 0, 1) := by decide +kernel
theorem dX11_atom_65 : decode cX11_atom 65 = .ok (.getfield 99, 3) := by decide +kernel
theorem dX11_atom_68 : decode cX11_atom 68 = .ok (.aload_n 0, 1) := by decide +kernel
theorem dX11_atom_69 : decode cX11_atom 69 = .ok (.getfield 102, 3) := by decide +kernel
theorem dX11_atom_72 : decode cX11_atom 72 = .ok (.isub, 1) := by decide +kernel
theorem dX11_atom_73 : decode cX11_atom 73 = .ok (.istore_n 1, 1) := by decide +kernel
theorem dX11_atom_74 : decode cX11_atom 74 = .ok (.iload_n 1, 1) := by decide +kernel
theorem dX11_atom_75 : decode cX11_atom 75 = .ok (.iconst 2, 1) := by decide +kernel
theorem dX11_atom_76 : decode cX11_atom 76 = .ok (.if_icmp .le 132, 3) := by decide +kernel
theorem dX11_atom_79 : decode cX11_atom 79 = .ok (.iload_n 1, 1) := by decide +kernel
theorem dX11_atom_80 : decode cX11_atom 80 = .ok (.bipush 7, 2) := by decide +kernel
theorem dX11_atom_82 : decode cX11_atom 82 = .ok (.if_icmp .ge 126, 3) := by decide +kernel
theorem dX11_atom_85 : decode cX11_atom 85 = .ok (.aload_n 0, 1) := by decide +kernel
theorem dX11_atom_86 : decode cX11_atom 86 = .ok (.getfield 7, 3) := by decide +kernel
theorem dX11_atom_89 : decode cX11_atom 89 = .ok (.aload_n 0, 1) := by decide +kernel
theorem dX11_atom_90 : decode cX11_atom 90 = .ok (.getfield 102, 3) := by decide +kernel
theorem dX11_atom_93 : decode cX11_atom 93 = .ok (.iaload, 1) := by decide +kernel
theorem dX11_atom_94 : decode cX11_atom 94 = .ok (.bipush 35, 2) := by decide +kernel
theorem dX11_atom_96 : decode cX11_atom 96 = .ok (.if_icmp .ne 112, 3) := by decide +kernel
theorem dX11_atom_99 : decode cX11_atom 99 = .ok (.aload_n 0, 1) := by decide +kernel
theorem dX11_atom_100 : decode cX11_atom 100 = .ok (.getfield 7, 3) := by decide +kernel
theorem dX11_atom_103 : decode cX11_atom 103 = .ok (.aload_n 0, 1) := by decide +kernel
theorem dX11_atom_104 : decode cX11_atom 104 = .ok (.getfield 102, 3) := by decide +kernel
theorem dX11_atom_107 : decode cX11_atom 107 = .ok (.iconst 1, 1) := by decide +kernel
theorem dX11_atom_108 : decode cX11_atom 108 = .ok (.iadd, 1) := by decide +kernel
theorem dX11_atom_109 : decode cX11_atom 109 = .ok (.iaload, 1) := by decide +kernel
theorem dX11_atom_110 : decode cX11_atom 110 = .ok (.bipush 98, 2) := by decide +kernel
theorem dX11_atom_112 : decode cX11_atom 112 = .ok (.if_icmp .ne 96, 3) := by decide +kernel
theorem dX11_atom_115 : decode cX11_atom 115 = .ok (.iconst 0, 1) := by decide +kernel
theorem dX11_atom_116 : decode cX11_atom 116 = .ok (.istore_n 2, 1) := by decide +kernel
theorem dX11_atom_117 : decode cX11_atom 117 = .ok (.iconst 1, 1) := by decide +kernel
theorem dX11_atom_118 : decode cX11_atom 118 = .ok (.istore_n 3, 1) := by decide +kernel
theorem dX11_atom_119 : decode cX11_atom 119 = .ok (.aload_n 0, 1) := by decide +kernel
theorem dX11_atom_120 : decode cX11_atom 120 = .ok (.getfield 102, 3) := by decide +kernel
theorem dX11_atom_123 : decode cX11_atom 123 = .ok (.iconst 2, 1) := by decide +kernel
theorem dX11_atom_124 : decode cX11_atom 124 = .ok (.iadd, 1) := by decide +kernel
theorem dX11_atom_125 : decode cX11_atom 125 = .ok (.istore 4, 2) := by decide +kernel
theorem dX11_atom_127 : decode cX11_atom 127 = .ok (.iload 4, 2) := by decide +kernel
theorem dX11_atom_129 : decode cX11_atom 129 = .ok (.aload_n 0, 1) := by decide +kernel
theorem dX11_atom_130 : decode cX11_atom 130 = .ok (.getfield 99, 3) := by decide +kernel
theorem dX11_atom_133 : decode cX11_atom 133 = .ok (.if_icmp .ge 51, 3) := by decide +kernel
theorem dX11_atom_136 : decode cX11_atom 136 = .ok (.iload_n 3, 1) := by decide +kernel
theorem dX11_atom_137 : decode cX11_atom 137 = .ok (.ifCond .eq 24, 3) := by decide +kernel
theorem dX11_atom_140 : decode cX11_atom 140 = .ok (.aload_n 0, 1) := by decide +kernel
theorem dX11_atom_141 : decode cX11_atom 141 = .ok (.getfield 7, 3) := by decide +kernel
theorem dX11_atom_144 : decode cX11_atom 144 = .ok (.iload 4, 2) := by decide +kernel
theorem dX11_atom_146 : decode cX11_atom 146 = .ok (.iaload, 1) := by decide +kernel
theorem dX11_atom_147 : decode cX11_atom 147 = .ok (.bipush 48, 2) := by decide +kernel
theorem dX11_atom_149 : decode cX11_atom 149 = .ok (.bipush 49, 2) := by decide +kernel
theorem dX11_atom_151 : decode cX11_atom 151 = .ok (.invokestatic 84, 3) := by decide +kernel
theorem dX11_atom_154 : decode cX11_atom 154 = .ok (.ifCond .eq 7, 3) := by decide +kernel
theorem dX11_atom_157 : decode cX11_atom 157 = .ok (.iconst 1, 1) := by decide +kernel
theorem dX11_atom_158 : decode cX11_atom 158 = .ok (.goto 4, 3) := by decide +kernel
theorem dX11_atom_161 : decode cX11_atom 161 = .ok (.iconst 0, 1) := by decide +kernel
theorem dX11_atom_162 : decode cX11_atom 162 = .ok (.istore_n 3, 1) := by decide +kernel
theorem dX11_atom_163 : decode cX11_atom 163 = .ok (.iconst 2, 1) := by decide +kernel
theorem dX11_atom_164 : decode cX11_atom 164 = .ok (.iload_n 2, 1) := by decide +kernel
theorem dX11_atom_165 : decode cX11_atom 165 = .ok (.imul, 1) := by decide +kernel
theorem dX11_atom_166 : decode cX11_atom 166 = .ok (.aload_n 0, 1) := by decide +kernel
theorem dX11_atom_167 : decode cX11_atom 167 = .ok (.getfield 7, 3) := by decide +kernel
theorem dX11_atom_170 : decode cX11_atom 170 = .ok (.iload 4, 2) := by decide +kernel
theorem dX11_atom_172 : decode cX11_atom 172 = .ok (.iaload, 1) := by decide +kernel
theorem dX11_atom_173 : decode cX11_atom 173 = .ok (.iadd, 1) := by decide +kernel
theorem dX11_atom_174 : decode cX11_atom 174 = .ok (.bipush 48, 2) := by decide +kernel
theorem dX11_atom_176 : decode cX11_atom 176 = .ok (.isub, 1) := by decide +kernel
theorem dX11_atom_177 : decode cX11_atom 177 = .ok (.istore_n 2, 1) := by decide +kernel
theorem dX11_atom_178 : decode cX11_atom 178 = .ok (.iinc 4 1, 3) := by decide +kernel
theorem dX11_atom_181 : decode cX11_atom 181 = .ok (.goto (-54), 3) := by decide +kernel
theorem dX11_atom_184 : decode cX11_atom 184 = .ok (.iload_n 3, 1) := by decide +kernel
theorem dX11_atom_185 : decode cX11_atom 185 = .ok (.ifCond .eq 21, 3) := by decide +kernel
theorem dX11_atom_188 : decode cX11_atom 188 = .ok (.aload_n 0, 1) := by decide +kernel
theorem dX11_atom_189 : decode cX11_atom 189 = .ok (.iconst 3, 1) := by decide +kernel
theorem dX11_atom_190 : decode cX11_atom 190 = .ok (.iload_n 1, 1) := by decide +kernel
theorem dX11_atom_191 : decode cX11_atom 191 = .ok (.iconst 2, 1) := by decide +kernel
theorem dX11_atom_192 : decode cX11_atom 192 = .ok (.isub, 1) := by decide +kernel
theorem dX11_atom_193 : decode cX11_atom 193 = .ok (.iconst (-1), 1) := by decide +kernel
theorem dX11_atom_194 : decode cX11_atom 194 = .ok (.iconst (-1), 1) := by decide +kernel
theorem dX11_atom_195 : decode cX11_atom 195 = .ok (.iconst (-1), 1) := by decide +kernel
theorem dX11_atom_196 : decode cX11_atom 196 = .ok (.iload_n 1, 1) := by decide +kernel
theorem dX11_atom_197 : decode cX11_atom 197 = .ok (.iconst 2, 1) := by decide +kernel
theorem dX11_atom_198 : decode cX11_atom 198 = .ok (.isub, 1) := by decide +kernel
theorem dX11_atom_199 : decode cX11_atom 199 = .ok (.iload_n 2, 1) := by decide +kernel
theorem dX11_atom_200 : decode cX11_atom 200 = .ok (.invokevirtual 222, 3) := by decide +kernel
theorem dX11_atom_203 : decode cX11_atom 203 = .ok (.goto 4, 3) := by decide +kernel
theorem dX11_atom_206 : decode cX11_atom 206 = .ok (.iconst (-1), 1) := by decide +kernel
theorem dX11_atom_207 : decode cX11_atom 207 = .ok (.ireturn, 1) := by decide +kernel
theorem dX11_atom_208 : decode cX11_atom 208 = .ok (.iconst (-1), 1) := by decide +kernel
theorem dX11_atom_209 : decode cX11_atom 209 = .ok (.istore_n 2, 1) := by decide +kernel
theorem dX11_atom_210 : decode cX11_atom 210 = .ok (.iconst 0, 1) := by decide +kernel
theorem dX11_atom_211 : decode cX11_atom 211 = .ok (.istore_n 3, 1) := by decide +kernel
theorem dX11_atom_212 : decode cX11_atom 212 = .ok (.iload_n 3, 1) := by decide +kernel
theorem dX11_atom_213 : decode cX11_atom 213 = .ok (.aload_n 0, 1) := by decide +kernel
theorem dX11_atom_214 : decode cX11_atom 214 = .ok (.getfield 228, 3) := by decide +kernel
theorem dX11_atom_217 : decode cX11_atom 217 = .ok (.if_icmp .ge 43, 3) := by decide +kernel
theorem dX11_atom_220 : decode cX11_atom 220 = .ok (.aload_n 0, 1) := by decide +kernel
theorem dX11_atom_221 : decode cX11_atom 221 = .ok (.getfield 56, 3) := by decide +kernel
theorem dX11_atom_224 : decode cX11_atom 224 = .ok (.iload_n 3, 1) := by decide +kernel
theorem dX11_atom_225 : decode cX11_atom 225 = .ok (.laload, 1) := by decide +kernel
theorem dX11_atom_226 : decode cX11_atom 226 = .ok (.aload_n 0, 1) := by decide +kernel
theorem dX11_atom_227 : decode cX11_atom 227 = .ok (.getfield 105, 3) := by decide +kernel
theorem dX11_atom_230 : decode cX11_atom 230 = .ok (.lcmp, 1) := by decide +kernel
theorem dX11_atom_231 : decode cX11_atom 231 = .ok (.ifCond .ne 21, 3) := by decide +kernel
theorem dX11_atom_234 : decode cX11_atom 234 = .ok (.aload_n 0, 1) := by decide +kernel
theorem dX11_atom_235 : decode cX11_atom 235 = .ok (.getfield 109, 3) := by decide +kernel
theorem dX11_atom_238 : decode cX11_atom 238 = .ok (.lconst 0, 1) := by decide +kernel
theorem dX11_atom_239 : decode cX11_atom 239 = .ok (.lcmp, 1) := by decide +kernel
theorem dX11_atom_240 : decode cX11_atom 240 = .ok (.ifCond .ne 12, 3) := by decide +kernel
theorem dX11_atom_243 : decode cX11_atom 243 = .ok (.aload_n 0, 1) := by decide +kernel
theorem dX11_atom_244 : decode cX11_atom 244 = .ok (.getfield 59, 3) := by decide +kernel
theorem dX11_atom_247 : decode cX11_atom 247 = .ok (.iload_n 3, 1) := by decide +kernel
theorem dX11_atom_248 : decode cX11_atom 248 = .ok (.iaload, 1) := by decide +kernel
theorem dX11_atom_249 : decode cX11_atom 249 = .ok (.goto 4, 3) := by decide +kernel
theorem dX11_atom_252 : decode cX11_atom 252 = .ok (.iload_n 2, 1) := by decide +kernel
theorem dX11_atom_253 : decode cX11_atom 253 = .ok (.istore_n 2, 1) := by decide +kernel
theorem dX11_atom_254 : decode cX11_atom 254 = .ok (.iinc 3 1, 3) := by decide +kernel
theorem dX11_atom_257 : decode cX11_atom 257 = .ok (.goto (-45), 3) := by decide +kernel
theorem dX11_atom_260 : decode cX11_atom 260 = .ok (.iconst 0, 1) := by decide +kernel
theorem dX11_atom_261 : decode cX11_atom 261 = .ok (.istore_n 3, 1) := by decide +kernel
theorem dX11_atom_262 : decode cX11_atom 262 = .ok (.iload_n 3, 1) := by decide +kernel
theorem dX11_atom_263 : decode cX11_atom 263 = .ok (.aload_n 0, 1) := by decide +kernel
theorem dX11_atom_264 : decode cX11_atom 264 = .ok (.getfield 231, 3) := by decide +kernel
theorem dX11_atom_267 : decode cX11_atom 267 = .ok (.if_icmp .ge 66, 3) := by decide +kernel
theorem dX11_atom_270 : decode cX11_atom 270 = .ok (.aload_n 0, 1) := by decide +kernel
theorem dX11_atom_271 : decode cX11_atom 271 = .ok (.getfield 34, 3) := by decide +kernel
theorem dX11_atom_274 : decode cX11_atom 274 = .ok (.iload_n 3, 1) := by decide +kernel
theorem dX11_atom_275 : decode cX11_atom 275 = .ok (.iaload, 1) := by decide +kernel
theorem dX11_atom_276 : decode cX11_atom 276 = .ok (.bipush 35, 2) := by decide +kernel
theorem dX11_atom_278 : decode cX11_atom 278 = .ok (.if_icmp .ne 47, 3) := by decide +kernel
theorem dX11_atom_281 : decode cX11_atom 281 = .ok (.aload_n 0, 1) := by decide +kernel
theorem dX11_atom_282 : decode cX11_atom 282 = .ok (.getfield 40, 3) := by decide +kernel
theorem dX11_atom_285 : decode cX11_atom 285 = .ok (.iload_n 3, 1) := by decide +kernel
theorem dX11_atom_286 : decode cX11_atom 286 = .ok (.iaload, 1) := by decide +kernel
theorem dX11_atom_287 : decode cX11_atom 287 = .ok (.iconst 1, 1) := by decide +kernel
theorem dX11_atom_288 : decode cX11_atom 288 = .ok (.if_icmp .ne 37, 3) := by decide +kernel
theorem dX11_atom_291 : decode cX11_atom 291 = .ok (.aload_n 0, 1) := by decide +kernel
theorem dX11_atom_292 : decode cX11_atom 292 = .ok (.getfield 52, 3) := by decide +kernel
theorem dX11_atom_295 : decode cX11_atom 295 = .ok (.iload_n 3, 1) := by decide +kernel
theorem dX11_atom_296 : decode cX11_atom 296 = .ok (.laload, 1) := by decide +kernel
theorem dX11_atom_297 : decode cX11_atom 297 = .ok (.aload_n 0, 1) := by decide +kernel
theorem dX11_atom_298 : decode cX11_atom 298 = .ok (.getfield 105, 3) := by decide +kernel
theorem dX11_atom_301 : decode cX11_atom 301 = .ok (.lcmp, 1) := by decide +kernel
theorem dX11_atom_302 : decode cX11_atom 302 = .ok (.ifCond .ne 23, 3) := by decide +kernel
theorem dX11_atom_305 : decode cX11_atom 305 = .ok (.aload_n 0, 1) := by decide +kernel
theorem dX11_atom_306 : decode cX11_atom 306 = .ok (.getfield 109, 3) := by decide +kernel
theorem dX11_atom_309 : decode cX11_atom 309 = .ok (.lconst 0, 1) := by decide +kernel
theorem dX11_atom_310 : decode cX11_atom 310 = .ok (.lcmp, 1) := by decide +kernel
theorem dX11_atom_311 : decode cX11_atom 311 = .ok (.ifCond .ne 14, 3) := by decide +kernel
theorem dX11_atom_314 : decode cX11_atom 314 = .ok (.aload_n 0, 1) := by decide +kernel
theorem dX11_atom_315 : decode cX11_atom 315 = .ok (.getfield 43, 3) := by decide +kernel
theorem dX11_atom_318 : decode cX11_atom 318 = .ok (.iconst 3, 1) := by decide +kernel
theorem dX11_atom_319 : decode cX11_atom 319 = .ok (.iload_n 3, 1) := by decide +kernel
theorem dX11_atom_320 : decode cX11_atom 320 = .ok (.imul, 1) := by decide +kernel
theorem dX11_atom_321 : decode cX11_atom 321 = .ok (.iaload, 1) := by decide +kernel
theorem dX11_atom_322 : decode cX11_atom 322 = .ok (.goto 4, 3) := by decide +kernel
theorem dX11_atom_325 : decode cX11_atom 325 = .ok (.iload_n 2, 1) := by decide +kernel
theorem dX11_atom_326 : decode cX11_atom 326 = .ok (.istore_n 2, 1) := by decide +kernel
theorem dX11_atom_327 : decode cX11_atom 327 = .ok (.iinc 3 1, 3) := by decide +kernel
theorem dX11_atom_330 : decode cX11_atom 330 = .ok (.goto (-68), 3) := by decide +kernel
theorem dX11_atom_333 : decode cX11_atom 333 = .ok (.iload_n 2, 1) := by decide +kernel
theorem dX11_atom_334 : decode cX11_atom 334 = .ok (.ireturn, 1) := by decide +kernel
theorem dX11_push_0 : decode cX11_push 0 = .ok (.aload_n 0, 1) := by decide +kernel
theorem dX11_push_1 : decode cX11_push 1 = .ok (.getfield 34, 3) := by decide +kernel
theorem dX11_push_4 : decode cX11_push 4 = .ok (.aload_n 0, 1) := by decide +kernel
theorem dX11_push_5 : decode cX11_push 5 = .ok (.getfield 231, 3) := by decide +kernel
theorem dX11_push_8 : decode cX11_push 8 = .ok (.iload_n 1, 1) := by decide +kernel
theorem dX11_push_9 : decode cX11_push 9 = .ok (.iastore, 1) := by decide +kernel
theorem dX11_push_10 : decode cX11_push 10 = .ok (.aload_n 0, 1) := by decide +kernel
theorem dX11_push_11 : decode cX11_push 11 = .ok (.getfield 37, 3) := by decide +kernel
theorem dX11_push_14 : decode cX11_push 14 = .ok (.aload_n 0, 1) := by decide +kernel
theorem dX11_push_15 : decode cX11_push 15 = .ok (.getfield 231, 3) := by decide +kernel
theorem dX11_push_18 : decode cX11_push 18 = .ok (.iload_n 2, 1) := by decide +kernel
theorem dX11_push_19 : decode cX11_push 19 = .ok (.iastore, 1) := by decide +kernel
theorem dX11_push_20 : decode cX11_push 20 = .ok (.aload_n 0, 1) := by decide +kernel
theorem dX11_push_21 : decode cX11_push 21 = .ok (.getfield 40, 3) := by decide +kernel
theorem dX11_push_24 : decode cX11_push 24 = .ok (.aload_n 0, 1) := by decide +kernel
theorem dX11_push_25 : decode cX11_push 25 = .ok (.getfield 231, 3) := by decide +kernel
theorem dX11_push_28 : decode cX11_push 28 = .ok (.iconst 0, 1) := by decide +kernel
theorem dX11_push_29 : decode cX11_push 29 = .ok (.iastore, 1) := by decide +kernel
theorem dX11_push_30 : decode cX11_push 30 = .ok (.aload_n 0, 1) := by decide +kernel
theorem dX11_push_31 : decode cX11_push 31 = .ok (.aload_n 0, 1) := by decide +kernel
theorem dX11_push_32 : decode cX11_push 32 = .ok (.getfield 231, 3) := by decide +kernel
theorem dX11_push_35 : decode cX11_push 35 = .ok (.iconst 1, 1) := by decide +kernel
theorem dX11_push_36 : decode cX11_push 36 = .ok (.iadd, 1) := by decide +kernel
theorem dX11_push_37 : decode cX11_push 37 = .ok (.putfield 231, 3) := by decide +kernel
theorem dX11_push_40 : decode cX11_push 40 = .ok (.return_, 1) := by decide +kernel
theorem dX11_readHead_0 : decode cX11_readHead 0 = .ok (.aload_n 0, 1) := by decide +kernel
theorem dX11_readHead_1 : decode cX11_readHead 1 = .ok (.getfield 46, 3) := by decide +kernel
theorem dX11_readHead_4 : decode cX11_readHead 4 = .ok (.aload_n 0, 1) := by decide +kernel
theorem dX11_readHead_5 : decode cX11_readHead 5 = .ok (.getfield 231, 3) := by decide +kernel
theorem dX11_readHead_8 : decode cX11_readHead 8 = .ok (.iconst 0, 1) := by decide +kernel
theorem dX11_readHead_9 : decode cX11_readHead 9 = .ok (.iastore, 1) := by decide +kernel
theorem dX11_readHead_10 : decode cX11_readHead 10 = .ok (.aload_n 0, 1) := by decide +kernel
theorem dX11_readHead_11 : decode cX11_readHead 11 = .ok (.getfield 49, 3) := by decide +kernel
theorem dX11_readHead_14 : decode cX11_readHead 14 = .ok (.aload_n 0, 1) := by decide +kernel
theorem dX11_readHead_15 : decode cX11_readHead 15 = .ok (.getfield 231, 3) := by decide +kernel
theorem dX11_readHead_18 : decode cX11_readHead 18 = .ok (.iconst 0, 1) := by decide +kernel
theorem dX11_readHead_19 : decode cX11_readHead 19 = .ok (.iastore, 1) := by decide +kernel
theorem dX11_readHead_20 : decode cX11_readHead 20 = .ok (.aload_n 0, 1) := by decide +kernel
theorem dX11_readHead_21 : decode cX11_readHead 21 = .ok (.getfield 115, 3) := by decide +kernel
theorem dX11_readHead_24 : decode cX11_readHead 24 = .ok (.iconst 1, 1) := by decide +kernel
theorem dX11_readHead_25 : decode cX11_readHead 25 = .ok (.if_icmp .ne 13, 3) := by decide +kernel
theorem dX11_readHead_28 : decode cX11_readHead 28 = .ok (.aload_n 0, 1) := by decide +kernel
theorem dX11_readHead_29 : decode cX11_readHead 29 = .ok (.invokevirtual 124, 3) := by decide +kernel
theorem dX11_readHead_32 : decode cX11_readHead 32 = .ok (.aload_n 0, 1) := by decide +kernel
theorem dX11_readHead_33 : decode cX11_readHead 33 = .ok (.iload_n 1, 1) := by decide +kernel
theorem dX11_readHead_34 : decode cX11_readHead 34 = .ok (.invokevirtual 234, 3) := by decide +kernel
theorem dX11_readHead_37 : decode cX11_readHead 37 = .ok (.ireturn, 1) := by decide +kernel
theorem dX11_readHead_38 : decode cX11_readHead 38 = .ok (.aload_n 0, 1) := by decide +kernel
theorem dX11_readHead_39 : decode cX11_readHead 39 = .ok (.getfield 115, 3) := by decide +kernel
theorem dX11_readHead_42 : decode cX11_readHead 42 = .ok (.iconst 3, 1) := by decide +kernel
theorem dX11_readHead_43 : decode cX11_readHead 43 = .ok (.if_icmp .ne 17, 3) := by decide +kernel
theorem dX11_readHead_46 : decode cX11_readHead 46 = .ok (.aload_n 0, 1) := by decide +kernel
theorem dX11_readHead_47 : decode cX11_readHead 47 = .ok (.getfield 105, 3) := by decide +kernel
theorem dX11_readHead_50 : decode cX11_readHead 50 = .ok (.aload_n 0, 1) := by decide +kernel
theorem dX11_readHead_51 : decode cX11_readHead 51 = .ok (.getfield 109, 3) := by decide +kernel
theorem dX11_readHead_54 : decode cX11_readHead 54 = .ok (.invokestatic 189, 3) := by decide +kernel
theorem dX11_readHead_57 : decode cX11_readHead 57 = .ok (.goto 4, 3) := by decide +kernel
theorem dX11_readHead_60 : decode cX11_readHead 60 = .ok (.iconst (-1), 1) := by decide +kernel
theorem dX11_readHead_61 : decode cX11_readHead 61 = .ok (.istore_n 2, 1) := by decide +kernel
theorem dX11_readHead_62 : decode cX11_readHead 62 = .ok (.aload_n 0, 1) := by decide +kernel
theorem dX11_readHead_63 : decode cX11_readHead 63 = .ok (.iload_n 2, 1) := by decide +kernel
theorem dX11_readHead_64 : decode cX11_readHead 64 = .ok (.ifCond .lt 7, 3) := by decide +kernel
theorem dX11_readHead_67 : decode cX11_readHead 67 = .ok (.iconst 1, 1) := by decide +kernel
theorem dX11_readHead_68 : decode cX11_readHead 68 = .ok (.goto 4, 3) := by decide +kernel
theorem dX11_readHead_71 : decode cX11_readHead 71 = .ok (.iconst 0, 1) := by decide +kernel
theorem dX11_readHead_72 : decode cX11_readHead 72 = .ok (.invokevirtual 127, 3) := by decide +kernel
theorem dX11_readHead_75 : decode cX11_readHead 75 = .ok (.ifCond .ne 5, 3) := by decide +kernel
theorem dX11_readHead_78 : decode cX11_readHead 78 = .ok (.iconst 0, 1) := by decide +kernel
theorem dX11_readHead_79 : decode cX11_readHead 79 = .ok (.ireturn, 1) := by decide +kernel
theorem dX11_readHead_80 : decode cX11_readHead 80 = .ok (.iload_n 2, 1) := by decide +kernel
theorem dX11_readHead_81 : decode cX11_readHead 81 = .ok (.bipush 35, 2) := by decide +kernel
theorem dX11_readHead_83 : decode cX11_readHead 83 = .ok (.if_icmp .ne 71, 3) := by decide +kernel
theorem dX11_readHead_86 : decode cX11_readHead 86 = .ok (.aload_n 0, 1) := by decide +kernel
theorem dX11_readHead_87 : decode cX11_readHead 87 = .ok (.aload_n 0, 1) := by decide +kernel
theorem dX11_readHead_88 : decode cX11_readHead 88 = .ok (.getfield 115, 3) := by decide +kernel
theorem dX11_readHead_91 : decode cX11_readHead 91 = .ok (.iconst 1, 1) := by decide +kernel
theorem dX11_readHead_92 : decode cX11_readHead 92 = .ok (.if_icmp .ne 7, 3) := by decide +kernel
theorem dX11_readHead_95 : decode cX11_readHead 95 = .ok (.iconst 1, 1) := by decide +kernel
theorem dX11_readHead_96 : decode cX11_readHead 96 = .ok (.goto 4, 3) := by decide +kernel
theorem dX11_readHead_99 : decode cX11_readHead 99 = .ok (.iconst 0, 1) := by decide +kernel
theorem dX11_readHead_100 : decode cX11_readHead 100 = .ok (.invokevirtual 127, 3) := by decide +kernel
theorem dX11_readHead_103 : decode cX11_readHead 103 = .ok (.ifCond .eq 23, 3) := by decide +kernel
theorem dX11_readHead_106 : decode cX11_readHead 106 = .ok (.aload_n 0, 1) := by decide +kernel
theorem dX11_readHead_107 : decode cX11_readHead 107 = .ok (.aload_n 0, 1) := by decide +kernel
theorem dX11_readHead_108 : decode cX11_readHead 108 = .ok (.getfield 115, 3) := by decide +kernel
theorem dX11_readHead_111 : decode cX11_readHead 111 = .ok (.iconst 1, 1) := by decide +kernel
theorem dX11_readHead_112 : decode cX11_readHead 112 = .ok (.if_icmp .ne 7, 3) := by decide +kernel
theorem dX11_readHead_115 : decode cX11_readHead 115 = .ok (.iconst 1, 1) := by decide +kernel
theorem dX11_readHead_116 : decode cX11_readHead 116 = .ok (.goto 4, 3) := by decide +kernel
theorem dX11_readHead_119 : decode cX11_readHead 119 = .ok (.iconst 0, 1) := by decide +kernel
theorem dX11_readHead_120 : decode cX11_readHead 120 = .ok (.invokevirtual 127, 3) := by decide +kernel
theorem dX11_readHead_123 : decode cX11_readHead 123 = .ok (.ifCond .ne 5, 3) := by decide +kernel
theorem dX11_readHead_126 : decode cX11_readHead 126 = .ok (.iconst 0, 1) := by decide +kernel
theorem dX11_readHead_127 : decode cX11_readHead 127 = .ok (.ireturn, 1) := by decide +kernel
theorem dX11_readHead_128 : decode cX11_readHead 128 = .ok (.aload_n 0, 1) := by decide +kernel
theorem dX11_readHead_129 : decode cX11_readHead 129 = .ok (.getfield 52, 3) := by decide +kernel
theorem dX11_readHead_132 : decode cX11_readHead 132 = .ok (.aload_n 0, 1) := by decide +kernel
theorem dX11_readHead_133 : decode cX11_readHead 133 = .ok (.getfield 231, 3) := by decide +kernel
theorem dX11_readHead_136 : decode cX11_readHead 136 = .ok (.aload_n 0, 1) := by decide +kernel
theorem dX11_readHead_137 : decode cX11_readHead 137 = .ok (.getfield 105, 3) := by decide +kernel
theorem dX11_readHead_140 : decode cX11_readHead 140 = .ok (.lastore, 1) := by decide +kernel
theorem dX11_readHead_141 : decode cX11_readHead 141 = .ok (.aload_n 0, 1) := by decide +kernel
theorem dX11_readHead_142 : decode cX11_readHead 142 = .ok (.aload_n 0, 1) := by decide +kernel
theorem dX11_readHead_143 : decode cX11_readHead 143 = .ok (.invokevirtual 237, 3) := by decide +kernel
theorem dX11_readHead_146 : decode cX11_readHead 146 = .ok (.invokevirtual 127, 3) := by decide +kernel
theorem dX11_readHead_149 : decode cX11_readHead 149 = .ok (.ifCond .ne 5, 3) := by decide +kernel
theorem dX11_readHead_152 : decode cX11_readHead 152 = .ok (.iconst 0, 1) := by decide +kernel
theorem dX11_readHead_153 : decode cX11_readHead 153 = .ok (.ireturn, 1) := by decide +kernel
theorem dX11_readHead_154 : decode cX11_readHead 154 = .ok (.aload_n 0, 1) := by decide +kernel
theorem dX11_readHead_155 : decode cX11_readHead 155 = .ok (.iload_n 2, 1) := by decide +kernel
theorem dX11_readHead_156 : decode cX11_readHead 156 = .ok (.iload_n 1, 1) := by decide +kernel
theorem dX11_readHead_157 : decode cX11_readHead 157 = .ok (.invokevirtual 241, 3) := by decide +kernel
theorem dX11_readHead_160 : decode cX11_readHead 160 = .ok (.iconst 1, 1) := by decide +kernel
theorem dX11_readHead_161 : decode cX11_readHead 161 = .ok (.ireturn, 1) := by decide +kernel
theorem dX11_readIndexed_0 : decode cX11_readIndexed 0 = .ok (.aload_n 0, 1) := by decide +kernel
theorem dX11_readIndexed_1 : decode cX11_readIndexed 1 = .ok (.ldc2_w 201, 3) := by decide +kernel
theorem dX11_readIndexed_4 : decode cX11_readIndexed 4 = .ok (.lconst 0, 1) := by decide +kernel
theorem dX11_readIndexed_5 : decode cX11_readIndexed 5 = .ok (.invokevirtual 203, 3) := by decide +kernel
theorem dX11_readIndexed_8 : decode cX11_readIndexed 8 = .ok (.ifCond .ne 5, 3) := by decide +kernel
theorem dX11_readIndexed_11 : decode cX11_readIndexed 11 = .ok (.iconst 0, 1) := by decide +kernel
theorem dX11_readIndexed_12 : decode cX11_readIndexed 12 = .ok (.ireturn, 1) := by decide +kernel
theorem dX11_readIndexed_13 : decode cX11_readIndexed 13 = .ok (.aload_n 0, 1) := by decide +kernel
theorem dX11_readIndexed_14 : decode cX11_readIndexed 14 = .ok (.getfield 115, 3) := by decide +kernel
theorem dX11_readIndexed_17 : decode cX11_readIndexed 17 = .ok (.iconst 3, 1) := by decide +kernel
theorem dX11_readIndexed_18 : decode cX11_readIndexed 18 = .ok (.if_icmp .ne 7, 3) := by decide +kernel
theorem dX11_readIndexed_21 : decode cX11_readIndexed 21 = .ok (.iconst 1, 1) := by decide +kernel
theorem dX11_readIndexed_22 : decode cX11_readIndexed 22 = .ok (.goto 4, 3) := by decide +kernel
theorem dX11_readIndexed_25 : decode cX11_readIndexed 25 = .ok (.iconst 0, 1) := by decide +kernel
theorem dX11_readIndexed_26 : decode cX11_readIndexed 26 = .ok (.istore_n 2, 1) := by decide +kernel
theorem dX11_readIndexed_27 : decode cX11_readIndexed 27 = .ok (.iload_n 2, 1) := by decide +kernel
theorem dX11_readIndexed_28 : decode cX11_readIndexed 28 = .ok (.ifCond .eq 28, 3) := by decide +kernel
theorem dX11_readIndexed_31 : decode cX11_readIndexed 31 = .ok (.aload_n 0, 1) := by decide +kernel
theorem dX11_readIndexed_32 : decode cX11_readIndexed 32 = .ok (.getfield 105, 3) := by decide +kernel
theorem dX11_readIndexed_35 : decode cX11_readIndexed 35 = .ok (.ldc2_w 245, 3) := by decide +kernel
theorem dX11_readIndexed_38 : decode cX11_readIndexed 38 = .ok (.lcmp, 1) := by decide +kernel
theorem dX11_readIndexed_39 : decode cX11_readIndexed 39 = .ok (.ifCond .ne 17, 3) := by decide +kernel
theorem dX11_readIndexed_42 : decode cX11_readIndexed 42 = .ok (.aload_n 0, 1) := by decide +kernel
theorem dX11_readIndexed_43 : decode cX11_readIndexed 43 = .ok (.getfield 109, 3) := by decide +kernel
theorem dX11_readIndexed_46 : decode cX11_readIndexed 46 = .ok (.lconst 0, 1) := by decide +kernel
theorem dX11_readIndexed_47 : decode cX11_readIndexed 47 = .ok (.lcmp, 1) := by decide +kernel
theorem dX11_readIndexed_48 : decode cX11_readIndexed 48 = .ok (.ifCond .ne 8, 3) := by decide +kernel
theorem dX11_readIndexed_51 : decode cX11_readIndexed 51 = .ok (.bipush 30, 2) := by decide +kernel
theorem dX11_readIndexed_53 : decode cX11_readIndexed 53 = .ok (.goto 66, 3) := by decide +kernel
theorem dX11_readIndexed_56 : decode cX11_readIndexed 56 = .ok (.iload_n 2, 1) := by decide +kernel
theorem dX11_readIndexed_57 : decode cX11_readIndexed 57 = .ok (.ifCond .eq 30, 3) := by decide +kernel
theorem dX11_readIndexed_60 : decode cX11_readIndexed 60 = .ok (.aload_n 0, 1) := by decide +kernel
theorem dX11_readIndexed_61 : decode cX11_readIndexed 61 = .ok (.getfield 105, 3) := by decide +kernel
theorem dX11_readIndexed_64 : decode cX11_readIndexed 64 = .ok (.ldc2_w 247, 3) := by decide +kernel
theorem dX11_readIndexed_67 : decode cX11_readIndexed 67 = .ok (.lcmp, 1) := by decide +kernel
theorem dX11_readIndexed_68 : decode cX11_readIndexed 68 = .ok (.ifCond .ne 19, 3) := by decide +kernel
theorem dX11_readIndexed_71 : decode cX11_readIndexed 71 = .ok (.aload_n 0, 1) := by decide +kernel
theorem dX11_readIndexed_72 : decode cX11_readIndexed 72 = .ok (.getfield 109, 3) := by decide +kernel
theorem dX11_readIndexed_75 : decode cX11_readIndexed 75 = .ok (.ldc2_w 249, 3) := by decide +kernel
theorem dX11_readIndexed_78 : decode cX11_readIndexed 78 = .ok (.lcmp, 1) := by decide +kernel
theorem dX11_readIndexed_79 : decode cX11_readIndexed 79 = .ok (.ifCond .ne 8, 3) := by decide +kernel
theorem dX11_readIndexed_82 : decode cX11_readIndexed 82 = .ok (.bipush 31, 2) := by decide +kernel
theorem dX11_readIndexed_84 : decode cX11_readIndexed 84 = .ok (.goto 35, 3) := by decide +kernel
theorem dX11_readIndexed_87 : decode cX11_readIndexed 87 = .ok (.iload_n 2, 1) := by decide +kernel
theorem dX11_readIndexed_88 : decode cX11_readIndexed 88 = .ok (.ifCond .eq 30, 3) := by decide +kernel
theorem dX11_readIndexed_91 : decode cX11_readIndexed 91 = .ok (.aload_n 0, 1) := by decide +kernel
theorem dX11_readIndexed_92 : decode cX11_readIndexed 92 = .ok (.getfield 105, 3) := by decide +kernel
theorem dX11_readIndexed_95 : decode cX11_readIndexed 95 = .ok (.ldc2_w 251, 3) := by decide +kernel
theorem dX11_readIndexed_98 : decode cX11_readIndexed 98 = .ok (.lcmp, 1) := by decide +kernel
theorem dX11_readIndexed_99 : decode cX11_readIndexed 99 = .ok (.ifCond .ne 19, 3) := by decide +kernel
theorem dX11_readIndexed_102 : decode cX11_readIndexed 102 = .ok (.aload_n 0, 1) := by decide +kernel
theorem dX11_readIndexed_103 : decode cX11_readIndexed 103 = .ok (.getfield 109, 3) := by decide +kernel
theorem dX11_readIndexed_106 : decode cX11_readIndexed 106 = .ok (.ldc2_w 249, 3) := by decide +kernel
theorem dX11_readIndexed_109 : decode cX11_readIndexed 109 = .ok (.lcmp, 1) := by decide +kernel
theorem dX11_readIndexed_110 : decode cX11_readIndexed 110 = .ok (.ifCond .ne 8, 3) := by decide +kernel
theorem dX11_readIndexed_113 : decode cX11_readIndexed 113 = .ok (.bipush 32, 2) := by decide +kernel
theorem dX11_readIndexed_115 : decode cX11_readIndexed 115 = .ok (.goto 4, 3) := by decide +kernel
theorem dX11_readIndexed_118 : decode cX11_readIndexed 118 = .ok (.iconst (-1), 1) := by decide +kernel
theorem dX11_readIndexed_119 : decode cX11_readIndexed 119 = .ok (.istore_n 3, 1) := by decide +kernel
theorem dX11_readIndexed_120 : decode cX11_readIndexed 120 = .ok (.aload_n 0, 1) := by decide +kernel
theorem dX11_readIndexed_121 : decode cX11_readIndexed 121 = .ok (.iload_n 3, 1) := by decide +kernel
theorem dX11_readIndexed_122 : decode cX11_readIndexed 122 = .ok (.ifCond .lt 7, 3) := by decide +kernel
theorem dX11_readIndexed_125 : decode cX11_readIndexed 125 = .ok (.iconst 1, 1) := by decide +kernel
theorem dX11_readIndexed_126 : decode cX11_readIndexed 126 = .ok (.goto 4, 3) := by decide +kernel
theorem dX11_readIndexed_129 : decode cX11_readIndexed 129 = .ok (.iconst 0, 1) := by decide +kernel
theorem dX11_readIndexed_130 : decode cX11_readIndexed 130 = .ok (.invokevirtual 127, 3) := by decide +kernel
theorem dX11_readIndexed_133 : decode cX11_readIndexed 133 = .ok (.ifCond .ne 5, 3) := by decide +kernel
theorem dX11_readIndexed_136 : decode cX11_readIndexed 136 = .ok (.iconst 0, 1) := by decide +kernel
theorem dX11_readIndexed_137 : decode cX11_readIndexed 137 = .ok (.ireturn, 1) := by decide +kernel
theorem dX11_readIndexed_138 : decode cX11_readIndexed 138 = .ok (.aload_n 0, 1) := by decide +kernel
theorem dX11_readIndexed_139 : decode cX11_readIndexed 139 = .ok (.invokevirtual 209, 3) := by decide +kernel
theorem dX11_readIndexed_142 : decode cX11_readIndexed 142 = .ok (.istore 4, 2) := by decide +kernel
theorem dX11_readIndexed_144 : decode cX11_readIndexed 144 = .ok (.aload_n 0, 1) := by decide +kernel
theorem dX11_readIndexed_145 : decode cX11_readIndexed 145 = .ok (.getfield 46, 3) := by decide +kernel
theorem dX11_readIndexed_148 : decode cX11_readIndexed 148 = .ok (.aload_n 0, 1) := by decide +kernel
theorem dX11_readIndexed_149 : decode cX11_readIndexed 149 = .ok (.getfield 231, 3) := by decide +kernel
theorem dX11_readIndexed_152 : decode cX11_readIndexed 152 = .ok (.iload 4, 2) := by decide +kernel
theorem dX11_readIndexed_154 : decode cX11_readIndexed 154 = .ok (.iastore, 1) := by decide +kernel
