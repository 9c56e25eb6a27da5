theorem dX11_readIndexed_155 : decode cX11_readIndexed 155 = .ok (.aload_n 0, 1) := by decide +kernel
theorem dX11_readIndexed_156 : decode cX11_readIndexed 156 = .ok (.iload 4, 2) := by decide +kernel
theorem dX11_readIndexed_158 : decode cX11_readIndexed 158 = .ok (.ifCond .lt 7, 3) := by decide +kernel
theorem dX11_readIndexed_161 : decode cX11_readIndexed 161 = .ok (.iconst 1, 1) := by decide +kernel
theorem dX11_readIndexed_162 : decode cX11_readIndexed 162 = .ok (.goto 4, 3) := by decide +kernel
theorem dX11_readIndexed_165 : decode cX11_readIndexed 165 = .ok (.iconst 0, 1) := by decide +kernel
theorem dX11_readIndexed_166 : decode cX11_readIndexed 166 = .ok (.invokevirtual 127, 3) := by decide +kernel
theorem dX11_readIndexed_169 : decode cX11_readIndexed 169 = .ok (.ifCond .ne 5, 3) := by decide +kernel
theorem dX11_readIndexed_172 : decode cX11_readIndexed 172 = .ok (.iconst 0, 1) := by decide +kernel
theorem dX11_readIndexed_173 : decode cX11_readIndexed 173 = .ok (.ireturn, 1) := by decide +kernel
theorem dX11_readIndexed_174 : decode cX11_readIndexed 174 = .ok (.iload_n 3, 1) := by decide +kernel
theorem dX11_readIndexed_175 : decode cX11_readIndexed 175 = .ok (.bipush 30, 2) := by decide +kernel
theorem dX11_readIndexed_177 : decode cX11_readIndexed 177 = .ok (.if_icmp .ne 46, 3) := by decide +kernel
theorem dX11_readIndexed_180 : decode cX11_readIndexed 180 = .ok (.aload_n 0, 1) := by decide +kernel
theorem dX11_readIndexed_181 : decode cX11_readIndexed 181 = .ok (.invokevirtual 209, 3) := by decide +kernel
theorem dX11_readIndexed_184 : decode cX11_readIndexed 184 = .ok (.istore 5, 2) := by decide +kernel
theorem dX11_readIndexed_186 : decode cX11_readIndexed 186 = .ok (.aload_n 0, 1) := by decide +kernel
theorem dX11_readIndexed_187 : decode cX11_readIndexed 187 = .ok (.getfield 49, 3) := by decide +kernel
theorem dX11_readIndexed_190 : decode cX11_readIndexed 190 = .ok (.aload_n 0, 1) := by decide +kernel
theorem dX11_readIndexed_191 : decode cX11_readIndexed 191 = .ok (.getfield 231, 3) := by decide +kernel
theorem dX11_readIndexed_194 : decode cX11_readIndexed 194 = .ok (.iload 5, 2) := by decide +kernel
theorem dX11_readIndexed_196 : decode cX11_readIndexed 196 = .ok (.iastore, 1) := by decide +kernel
theorem dX11_readIndexed_197 : decode cX11_readIndexed 197 = .ok (.aload_n 0, 1) := by decide +kernel
theorem dX11_readIndexed_198 : decode cX11_readIndexed 198 = .ok (.iload 5, 2) := by decide +kernel
theorem dX11_readIndexed_200 : decode cX11_readIndexed 200 = .ok (.ifCond .lt 14, 3) := by decide +kernel
theorem dX11_readIndexed_203 : decode cX11_readIndexed 203 = .ok (.iload 5, 2) := by decide +kernel
theorem dX11_readIndexed_205 : decode cX11_readIndexed 205 = .ok (.iload 4, 2) := by decide +kernel
theorem dX11_readIndexed_207 : decode cX11_readIndexed 207 = .ok (.if_icmp .gt 7, 3) := by decide +kernel
theorem dX11_readIndexed_210 : decode cX11_readIndexed 210 = .ok (.iconst 1, 1) := by decide +kernel
theorem dX11_readIndexed_211 : decode cX11_readIndexed 211 = .ok (.goto 4, 3) := by decide +kernel
theorem dX11_readIndexed_214 : decode cX11_readIndexed 214 = .ok (.iconst 0, 1) := by decide +kernel
theorem dX11_readIndexed_215 : decode cX11_readIndexed 215 = .ok (.invokevirtual 127, 3) := by decide +kernel
theorem dX11_readIndexed_218 : decode cX11_readIndexed 218 = .ok (.ifCond .ne 5, 3) := by decide +kernel
theorem dX11_readIndexed_221 : decode cX11_readIndexed 221 = .ok (.iconst 0, 1) := by decide +kernel
theorem dX11_readIndexed_222 : decode cX11_readIndexed 222 = .ok (.ireturn, 1) := by decide +kernel
theorem dX11_readIndexed_223 : decode cX11_readIndexed 223 = .ok (.aload_n 0, 1) := by decide +kernel
theorem dX11_readIndexed_224 : decode cX11_readIndexed 224 = .ok (.aload_n 0, 1) := by decide +kernel
theorem dX11_readIndexed_225 : decode cX11_readIndexed 225 = .ok (.getfield 115, 3) := by decide +kernel
theorem dX11_readIndexed_228 : decode cX11_readIndexed 228 = .ok (.iconst 2, 1) := by decide +kernel
theorem dX11_readIndexed_229 : decode cX11_readIndexed 229 = .ok (.if_icmp .ne 7, 3) := by decide +kernel
theorem dX11_readIndexed_232 : decode cX11_readIndexed 232 = .ok (.iconst 1, 1) := by decide +kernel
theorem dX11_readIndexed_233 : decode cX11_readIndexed 233 = .ok (.goto 4, 3) := by decide +kernel
theorem dX11_readIndexed_236 : decode cX11_readIndexed 236 = .ok (.iconst 0, 1) := by decide +kernel
theorem dX11_readIndexed_237 : decode cX11_readIndexed 237 = .ok (.invokevirtual 127, 3) := by decide +kernel
theorem dX11_readIndexed_240 : decode cX11_readIndexed 240 = .ok (.ifCond .ne 5, 3) := by decide +kernel
theorem dX11_readIndexed_243 : decode cX11_readIndexed 243 = .ok (.iconst 0, 1) := by decide +kernel
theorem dX11_readIndexed_244 : decode cX11_readIndexed 244 = .ok (.ireturn, 1) := by decide +kernel
theorem dX11_readIndexed_245 : decode cX11_readIndexed 245 = .ok (.aload_n 0, 1) := by decide +kernel
theorem dX11_readIndexed_246 : decode cX11_readIndexed 246 = .ok (.iload_n 3, 1) := by decide +kernel
theorem dX11_readIndexed_247 : decode cX11_readIndexed 247 = .ok (.iload_n 1, 1) := by decide +kernel
theorem dX11_readIndexed_248 : decode cX11_readIndexed 248 = .ok (.invokevirtual 241, 3) := by decide +kernel
theorem dX11_readIndexed_251 : decode cX11_readIndexed 251 = .ok (.iconst 1, 1) := by decide +kernel
theorem dX11_readIndexed_252 : decode cX11_readIndexed 252 = .ok (.ireturn, 1) := by decide +kernel
theorem dX11_parts_0 : decode cX11_parts 0 = .ok (.iload_n 0, 1) := by decide +kernel
theorem dX11_parts_1 : decode cX11_parts 1 = .ok (.iconst 4, 1) := by decide +kernel
theorem dX11_parts_2 : decode cX11_parts 2 = .ok (.if_icmp .eq 26, 3) := by decide +kernel
theorem dX11_parts_5 : decode cX11_parts 5 = .ok (.iload_n 0, 1) := by decide +kernel
theorem dX11_parts_6 : decode cX11_parts 6 = .ok (.bipush 12, 2) := by decide +kernel
theorem dX11_parts_8 : decode cX11_parts 8 = .ok (.if_icmp .eq 20, 3) := by decide +kernel
theorem dX11_parts_11 : decode cX11_parts 11 = .ok (.iload_n 0, 1) := by decide +kernel
theorem dX11_parts_12 : decode cX11_parts 12 = .ok (.bipush 13, 2) := by decide +kernel
theorem dX11_parts_14 : decode cX11_parts 14 = .ok (.if_icmp .eq 14, 3) := by decide +kernel
theorem dX11_parts_17 : decode cX11_parts 17 = .ok (.iload_n 0, 1) := by decide +kernel
theorem dX11_parts_18 : decode cX11_parts 18 = .ok (.bipush 30, 2) := by decide +kernel
theorem dX11_parts_20 : decode cX11_parts 20 = .ok (.bipush 32, 2) := by decide +kernel
theorem dX11_parts_22 : decode cX11_parts 22 = .ok (.invokestatic 84, 3) := by decide +kernel
theorem dX11_parts_25 : decode cX11_parts 25 = .ok (.ifCond .eq 7, 3) := by decide +kernel
theorem dX11_parts_28 : decode cX11_parts 28 = .ok (.iconst 1, 1) := by decide +kernel
theorem dX11_parts_29 : decode cX11_parts 29 = .ok (.goto 20, 3) := by decide +kernel
theorem dX11_parts_32 : decode cX11_parts 32 = .ok (.iload_n 0, 1) := by decide +kernel
theorem dX11_parts_33 : decode cX11_parts 33 = .ok (.bipush 11, 2) := by decide +kernel
theorem dX11_parts_35 : decode cX11_parts 35 = .ok (.if_icmp .eq 9, 3) := by decide +kernel
theorem dX11_parts_38 : decode cX11_parts 38 = .ok (.iload_n 0, 1) := by decide +kernel
theorem dX11_parts_39 : decode cX11_parts 39 = .ok (.bipush 34, 2) := by decide +kernel
theorem dX11_parts_41 : decode cX11_parts 41 = .ok (.if_icmp .ne 7, 3) := by decide +kernel
theorem dX11_parts_44 : decode cX11_parts 44 = .ok (.iconst 3, 1) := by decide +kernel
theorem dX11_parts_45 : decode cX11_parts 45 = .ok (.goto 4, 3) := by decide +kernel
theorem dX11_parts_48 : decode cX11_parts 48 = .ok (.iconst 2, 1) := by decide +kernel
theorem dX11_parts_49 : decode cX11_parts 49 = .ok (.ireturn, 1) := by decide +kernel
theorem dX11_fits_0 : decode cX11_fits 0 = .ok (.aload_n 0, 1) := by decide +kernel
theorem dX11_fits_1 : decode cX11_fits 1 = .ok (.getfield 34, 3) := by decide +kernel
theorem dX11_fits_4 : decode cX11_fits 4 = .ok (.iload_n 1, 1) := by decide +kernel
theorem dX11_fits_5 : decode cX11_fits 5 = .ok (.iaload, 1) := by decide +kernel
theorem dX11_fits_6 : decode cX11_fits 6 = .ok (.istore 4, 2) := by decide +kernel
theorem dX11_fits_8 : decode cX11_fits 8 = .ok (.iload_n 3, 1) := by decide +kernel
theorem dX11_fits_9 : decode cX11_fits 9 = .ok (.iconst 1, 1) := by decide +kernel
theorem dX11_fits_10 : decode cX11_fits 10 = .ok (.iconst 4, 1) := by decide +kernel
theorem dX11_fits_11 : decode cX11_fits 11 = .ok (.invokestatic 84, 3) := by decide +kernel
theorem dX11_fits_14 : decode cX11_fits 14 = .ok (.istore 5, 2) := by decide +kernel
theorem dX11_fits_16 : decode cX11_fits 16 = .ok (.iload_n 2, 1) := by decide +kernel
theorem dX11_fits_17 : decode cX11_fits 17 = .ok (.ifCond .le 19, 3) := by decide +kernel
theorem dX11_fits_20 : decode cX11_fits 20 = .ok (.aload_n 0, 1) := by decide +kernel
theorem dX11_fits_21 : decode cX11_fits 21 = .ok (.getfield 16, 3) := by decide +kernel
theorem dX11_fits_24 : decode cX11_fits 24 = .ok (.aload_n 0, 1) := by decide +kernel
theorem dX11_fits_25 : decode cX11_fits 25 = .ok (.getfield 43, 3) := by decide +kernel
theorem dX11_fits_28 : decode cX11_fits 28 = .ok (.iconst 3, 1) := by decide +kernel
theorem dX11_fits_29 : decode cX11_fits 29 = .ok (.iload_n 1, 1) := by decide +kernel
theorem dX11_fits_30 : decode cX11_fits 30 = .ok (.imul, 1) := by decide +kernel
theorem dX11_fits_31 : decode cX11_fits 31 = .ok (.iaload, 1) := by decide +kernel
theorem dX11_fits_32 : decode cX11_fits 32 = .ok (.iaload, 1) := by decide +kernel
theorem dX11_fits_33 : decode cX11_fits 33 = .ok (.goto 4, 3) := by decide +kernel
theorem dX11_fits_36 : decode cX11_fits 36 = .ok (.iconst (-1), 1) := by decide +kernel
theorem dX11_fits_37 : decode cX11_fits 37 = .ok (.istore 6, 2) := by decide +kernel
theorem dX11_fits_39 : decode cX11_fits 39 = .ok (.iload 4, 2) := by decide +kernel
theorem dX11_fits_41 : decode cX11_fits 41 = .ok (.iconst 4, 1) := by decide +kernel
theorem dX11_fits_42 : decode cX11_fits 42 = .ok (.bipush 8, 2) := by decide +kernel
theorem dX11_fits_44 : decode cX11_fits 44 = .ok (.invokestatic 84, 3) := by decide +kernel
theorem dX11_fits_47 : decode cX11_fits 47 = .ok (.ifCond .eq 13, 3) := by decide +kernel
theorem dX11_fits_50 : decode cX11_fits 50 = .ok (.iload_n 3, 1) := by decide +kernel
theorem dX11_fits_51 : decode cX11_fits 51 = .ok (.ifCond .ne 7, 3) := by decide +kernel
theorem dX11_fits_54 : decode cX11_fits 54 = .ok (.iconst 1, 1) := by decide +kernel
theorem dX11_fits_55 : decode cX11_fits 55 = .ok (.goto 4, 3) := by decide +kernel
theorem dX11_fits_58 : decode cX11_fits 58 = .ok (.iconst 0, 1) := by decide +kernel
theorem dX11_fits_59 : decode cX11_fits 59 = .ok (.ireturn, 1) := by decide +kernel
theorem dX11_fits_60 : decode cX11_fits 60 = .ok (.iload 4, 2) := by decide +kernel
theorem dX11_fits_62 : decode cX11_fits 62 = .ok (.bipush 9, 2) := by decide +kernel
theorem dX11_fits_64 : decode cX11_fits 64 = .ok (.if_icmp .eq 10, 3) := by decide +kernel
theorem dX11_fits_67 : decode cX11_fits 67 = .ok (.iload 4, 2) := by decide +kernel
theorem dX11_fits_69 : decode cX11_fits 69 = .ok (.bipush 10, 2) := by decide +kernel
theorem dX11_fits_71 : decode cX11_fits 71 = .ok (.if_icmp .ne 19, 3) := by decide +kernel
theorem dX11_fits_74 : decode cX11_fits 74 = .ok (.iload_n 2, 1) := by decide +kernel
theorem dX11_fits_75 : decode cX11_fits 75 = .ok (.ifCond .eq 9, 3) := by decide +kernel
theorem dX11_fits_78 : decode cX11_fits 78 = .ok (.iload_n 3, 1) := by decide +kernel
theorem dX11_fits_79 : decode cX11_fits 79 = .ok (.iload 6, 2) := by decide +kernel
theorem dX11_fits_81 : decode cX11_fits 81 = .ok (.if_icmp .ne 7, 3) := by decide +kernel
theorem dX11_fits_84 : decode cX11_fits 84 = .ok (.iconst 1, 1) := by decide +kernel
theorem dX11_fits_85 : decode cX11_fits 85 = .ok (.goto 4, 3) := by decide +kernel
theorem dX11_fits_88 : decode cX11_fits 88 = .ok (.iconst 0, 1) := by decide +kernel
theorem dX11_fits_89 : decode cX11_fits 89 = .ok (.ireturn, 1) := by decide +kernel
theorem dX11_fits_90 : decode cX11_fits 90 = .ok (.iload 4, 2) := by decide +kernel
theorem dX11_fits_92 : decode cX11_fits 92 = .ok (.bipush 11, 2) := by decide +kernel
theorem dX11_fits_94 : decode cX11_fits 94 = .ok (.if_icmp .ne 49, 3) := by decide +kernel
theorem dX11_fits_97 : decode cX11_fits 97 = .ok (.iload_n 2, 1) := by decide +kernel
theorem dX11_fits_98 : decode cX11_fits 98 = .ok (.ifCond .ne 15, 3) := by decide +kernel
theorem dX11_fits_101 : decode cX11_fits 101 = .ok (.iload_n 3, 1) := by decide +kernel
theorem dX11_fits_102 : decode cX11_fits 102 = .ok (.ifCond .ne 7, 3) := by decide +kernel
theorem dX11_fits_105 : decode cX11_fits 105 = .ok (.iconst 1, 1) := by decide +kernel
theorem dX11_fits_106 : decode cX11_fits 106 = .ok (.goto 36, 3) := by decide +kernel
theorem dX11_fits_109 : decode cX11_fits 109 = .ok (.iconst 0, 1) := by decide +kernel
theorem dX11_fits_110 : decode cX11_fits 110 = .ok (.goto 32, 3) := by decide +kernel
theorem dX11_fits_113 : decode cX11_fits 113 = .ok (.iload_n 2, 1) := by decide +kernel
theorem dX11_fits_114 : decode cX11_fits 114 = .ok (.iconst 1, 1) := by decide +kernel
theorem dX11_fits_115 : decode cX11_fits 115 = .ok (.if_icmp .eq 22, 3) := by decide +kernel
theorem dX11_fits_118 : decode cX11_fits 118 = .ok (.iload_n 3, 1) := by decide +kernel
theorem dX11_fits_119 : decode cX11_fits 119 = .ok (.aload_n 0, 1) := by decide +kernel
theorem dX11_fits_120 : decode cX11_fits 120 = .ok (.getfield 16, 3) := by decide +kernel
theorem dX11_fits_123 : decode cX11_fits 123 = .ok (.aload_n 0, 1) := by decide +kernel
theorem dX11_fits_124 : decode cX11_fits 124 = .ok (.getfield 43, 3) := by decide +kernel
theorem dX11_fits_127 : decode cX11_fits 127 = .ok (.iconst 3, 1) := by decide +kernel
theorem dX11_fits_128 : decode cX11_fits 128 = .ok (.iload_n 1, 1) := by decide +kernel
theorem dX11_fits_129 : decode cX11_fits 129 = .ok (.imul, 1) := by decide +kernel
theorem dX11_fits_130 : decode cX11_fits 130 = .ok (.iconst 1, 1) := by decide +kernel
theorem dX11_fits_131 : decode cX11_fits 131 = .ok (.iadd, 1) := by decide +kernel
theorem dX11_fits_132 : decode cX11_fits 132 = .ok (.iaload, 1) := by decide +kernel
theorem dX11_fits_133 : decode cX11_fits 133 = .ok (.iaload, 1) := by decide +kernel
theorem dX11_fits_134 : decode cX11_fits 134 = .ok (.if_icmp .ne 7, 3) := by decide +kernel
theorem dX11_fits_137 : decode cX11_fits 137 = .ok (.iconst 1, 1) := by decide +kernel
theorem dX11_fits_138 : decode cX11_fits 138 = .ok (.goto 4, 3) := by decide +kernel
theorem dX11_fits_141 : decode cX11_fits 141 = .ok (.iconst 0, 1) := by decide +kernel
theorem dX11_fits_142 : decode cX11_fits 142 = .ok (.ireturn, 1) := by decide +kernel
theorem dX11_fits_143 : decode cX11_fits 143 = .ok (.iload 4, 2) := by decide +kernel
theorem dX11_fits_145 : decode cX11_fits 145 = .ok (.bipush 12, 2) := by decide +kernel
theorem dX11_fits_147 : decode cX11_fits 147 = .ok (.bipush 28, 2) := by decide +kernel
theorem dX11_fits_149 : decode cX11_fits 149 = .ok (.invokestatic 84, 3) := by decide +kernel
theorem dX11_fits_152 : decode cX11_fits 152 = .ok (.ifCond .eq 24, 3) := by decide +kernel
theorem dX11_fits_155 : decode cX11_fits 155 = .ok (.iload 5, 2) := by decide +kernel
theorem dX11_fits_157 : decode cX11_fits 157 = .ok (.ifCond .eq 17, 3) := by decide +kernel
theorem dX11_fits_160 : decode cX11_fits 160 = .ok (.iload_n 2, 1) := by decide +kernel
theorem dX11_fits_161 : decode cX11_fits 161 = .ok (.ifCond .eq 9, 3) := by decide +kernel
theorem dX11_fits_164 : decode cX11_fits 164 = .ok (.iload_n 3, 1) := by decide +kernel
theorem dX11_fits_165 : decode cX11_fits 165 = .ok (.iload 6, 2) := by decide +kernel
theorem dX11_fits_167 : decode cX11_fits 167 = .ok (.if_icmp .ne 7, 3) := by decide +kernel
theorem dX11_fits_170 : decode cX11_fits 170 = .ok (.iconst 1, 1) := by decide +kernel
theorem dX11_fits_171 : decode cX11_fits 171 = .ok (.goto 4, 3) := by decide +kernel
theorem dX11_fits_174 : decode cX11_fits 174 = .ok (.iconst 0, 1) := by decide +kernel
theorem dX11_fits_175 : decode cX11_fits 175 = .ok (.ireturn, 1) := by decide +kernel
theorem dX11_fits_176 : decode cX11_fits 176 = .ok (.iload 4, 2) := by decide +kernel
theorem dX11_fits_178 : decode cX11_fits 178 = .ok (.bipush 29, 2) := by decide +kernel
theorem dX11_fits_180 : decode cX11_fits 180 = .ok (.if_icmp .ne 26, 3) := by decide +kernel
theorem dX11_fits_183 : decode cX11_fits 183 = .ok (.iload 5, 2) := by decide +kernel
theorem dX11_fits_185 : decode cX11_fits 185 = .ok (.ifCond .eq 19, 3) := by decide +kernel
theorem dX11_fits_188 : decode cX11_fits 188 = .ok (.iload_n 2, 1) := by decide +kernel
theorem dX11_fits_189 : decode cX11_fits 189 = .ok (.ifCond .eq 11, 3) := by decide +kernel
theorem dX11_fits_192 : decode cX11_fits 192 = .ok (.iload_n 3, 1) := by decide +kernel
theorem dX11_fits_193 : decode cX11_fits 193 = .ok (.iload 6, 2) := by decide +kernel
theorem dX11_fits_195 : decode cX11_fits 195 = .ok (.iadd, 1) := by decide +kernel
theorem dX11_fits_196 : decode cX11_fits 196 = .ok (.iconst 4, 1) := by decide +kernel
theorem dX11_fits_197 : decode cX11_fits 197 = .ok (.if_icmp .gt 7, 3) := by decide +kernel
theorem dX11_fits_200 : decode cX11_fits 200 = .ok (.iconst 1, 1) := by decide +kernel
theorem dX11_fits_201 : decode cX11_fits 201 = .ok (.goto 4, 3) := by decide +kernel
theorem dX11_fits_204 : decode cX11_fits 204 = .ok (.iconst 0, 1) := by decide +kernel
theorem dX11_fits_205 : decode cX11_fits 205 = .ok (.ireturn, 1) := by decide +kernel
theorem dX11_fits_206 : decode cX11_fits 206 = .ok (.iload 4, 2) := by decide +kernel
theorem dX11_fits_208 : decode cX11_fits 208 = .ok (.bipush 30, 2) := by decide +kernel
theorem dX11_fits_210 : decode cX11_fits 210 = .ok (.if_icmp .ne 24, 3) := by decide +kernel
theorem dX11_fits_213 : decode cX11_fits 213 = .ok (.iload 5, 2) := by decide +kernel
theorem dX11_fits_215 : decode cX11_fits 215 = .ok (.ifCond .eq 17, 3) := by decide +kernel
theorem dX11_fits_218 : decode cX11_fits 218 = .ok (.iload_n 3, 1) := by decide +kernel
theorem dX11_fits_219 : decode cX11_fits 219 = .ok (.aload_n 0, 1) := by decide +kernel
theorem dX11_fits_220 : decode cX11_fits 220 = .ok (.getfield 46, 3) := by decide +kernel
theorem dX11_fits_223 : decode cX11_fits 223 = .ok (.iload_n 1, 1) := by decide +kernel
theorem dX11_fits_224 : decode cX11_fits 224 = .ok (.iaload, 1) := by decide +kernel
theorem dX11_fits_225 : decode cX11_fits 225 = .ok (.if_icmp .le 7, 3) := by decide +kernel
theorem dX11_fits_228 : decode cX11_fits 228 = .ok (.iconst 1, 1) := by decide +kernel
theorem dX11_fits_229 : decode cX11_fits 229 = .ok (.goto 4, 3) := by decide +kernel
theorem dX11_fits_232 : decode cX11_fits 232 = .ok (.iconst 0, 1) := by decide +kernel
theorem dX11_fits_233 : decode cX11_fits 233 = .ok (.ireturn, 1) := by decide +kernel
theorem dX11_fits_234 : decode cX11_fits 234 = .ok (.iload 4, 2) := by decide +kernel
theorem dX11_fits_236 : decode cX11_fits 236 = .ok (.bipush 31, 2) := by decide +kernel
theorem dX11_fits_238 : decode cX11_fits 238 = .ok (.if_icmp .eq 10, 3) := by decide +kernel
theorem dX11_fits_241 : decode cX11_fits 241 = .ok (.iload 4, 2) := by decide +kernel
theorem dX11_fits_243 : decode cX11_fits 243 = .ok (.bipush 32, 2) := by decide +kernel
theorem dX11_fits_245 : decode cX11_fits 245 = .ok (.if_icmp .ne 26, 3) := by decide +kernel
theorem dX11_fits_248 : decode cX11_fits 248 = .ok (.iload 5, 2) := by decide +kernel
theorem dX11_fits_250 : decode cX11_fits 250 = .ok (.ifCond .eq 19, 3) := by decide +kernel
theorem dX11_fits_253 : decode cX11_fits 253 = .ok (.iload_n 3, 1) := by decide +kernel
theorem dX11_fits_254 : decode cX11_fits 254 = .ok (.aload_n 0, 1) := by decide +kernel
theorem dX11_fits_255 : decode cX11_fits 255 = .ok (.getfield 46, 3) := by decide +kernel
theorem dX11_fits_258 : decode cX11_fits 258 = .ok (.iload_n 1, 1) := by decide +kernel
theorem dX11_fits_259 : decode cX11_fits 259 = .ok (.iaload, 1) := by decide +kernel
theorem dX11_fits_260 : decode cX11_fits 260 = .ok (.iadd, 1) := by decide +kernel
theorem dX11_fits_261 : decode cX11_fits 261 = .ok (.iconst 4, 1) := by decide +kernel
theorem dX11_fits_262 : decode cX11_fits 262 = .ok (.if_icmp .gt 7, 3) := by decide +kernel
theorem dX11_fits_265 : decode cX11_fits 265 = .ok (.iconst 1, 1) := by decide +kernel
theorem dX11_fits_266 : decode cX11_fits 266 = .ok (.goto 4, 3) := by decide +kernel
theorem dX11_fits_269 : decode cX11_fits 269 = .ok (.iconst 0, 1) := by decide +kernel
theorem dX11_fits_270 : decode cX11_fits 270 = .ok (.ireturn, 1) := by decide +kernel
theorem dX11_fits_271 : decode cX11_fits 271 = .ok (.iload_n 2, 1) := by decide +kernel
theorem dX11_fits_272 : decode cX11_fits 272 = .ok (.ifCond .ne 16, 3) := by decide +kernel
theorem dX11_fits_275 : decode cX11_fits 275 = .ok (.iload_n 3, 1) := by decide +kernel
theorem dX11_fits_276 : decode cX11_fits 276 = .ok (.iconst 4, 1) := by decide +kernel
theorem dX11_fits_277 : decode cX11_fits 277 = .ok (.if_icmp .le 7, 3) := by decide +kernel
theorem dX11_fits_280 : decode cX11_fits 280 = .ok (.iconst 1, 1) := by decide +kernel
theorem dX11_fits_281 : decode cX11_fits 281 = .ok (.goto 38, 3) := by decide +kernel
theorem dX11_fits_284 : decode cX11_fits 284 = .ok (.iconst 0, 1) := by decide +kernel
theorem dX11_fits_285 : decode cX11_fits 285 = .ok (.goto 34, 3) := by decide +kernel
theorem dX11_fits_288 : decode cX11_fits 288 = .ok (.iload_n 2, 1) := by decide +kernel
theorem dX11_fits_289 : decode cX11_fits 289 = .ok (.iconst 1, 1) := by decide +kernel
theorem dX11_fits_290 : decode cX11_fits 290 = .ok (.if_icmp .ne 16, 3) := by decide +kernel
theorem dX11_fits_293 : decode cX11_fits 293 = .ok (.iload_n 3, 1) := by decide +kernel
theorem dX11_fits_294 : decode cX11_fits 294 = .ok (.iconst 1, 1) := by decide +kernel
theorem dX11_fits_295 : decode cX11_fits 295 = .ok (.if_icmp .ne 7, 3) := by decide +kernel
theorem dX11_fits_298 : decode cX11_fits 298 = .ok (.iconst 1, 1) := by decide +kernel
theorem dX11_fits_299 : decode cX11_fits 299 = .ok (.goto 20, 3) := by decide +kernel
theorem dX11_fits_302 : decode cX11_fits 302 = .ok (.iconst 0, 1) := by decide +kernel
theorem dX11_fits_303 : decode cX11_fits 303 = .ok (.goto 16, 3) := by decide +kernel
theorem dX11_fits_306 : decode cX11_fits 306 = .ok (.iload_n 3, 1) := by decide +kernel
theorem dX11_fits_307 : decode cX11_fits 307 = .ok (.iload 6, 2) := by decide +kernel
theorem dX11_fits_309 : decode cX11_fits 309 = .ok (.iconst 4, 1) := by decide +kernel
theorem dX11_fits_310 : decode cX11_fits 310 = .ok (.isub, 1) := by decide +kernel
theorem dX11_fits_311 : decode cX11_fits 311 = .ok (.if_icmp .ne 7, 3) := by decide +kernel
theorem dX11_fits_314 : decode cX11_fits 314 = .ok (.iconst 1, 1) := by decide +kernel
theorem dX11_fits_315 : decode cX11_fits 315 = .ok (.goto 4, 3) := by decide +kernel
theorem dX11_fits_318 : decode cX11_fits 318 = .ok (.iconst 0, 1) := by decide +kernel
theorem dX11_fits_319 : decode cX11_fits 319 = .ok (.ireturn, 1) := by decide +kernel
theorem dX11_build_0 : decode cX11_build 0 = .ok (.aload_n 0, 1) := by decide +kernel
theorem dX11_build_1 : decode cX11_build 1 = .ok (.getfield 34, 3) := by decide +kernel
theorem dX11_build_4 : decode cX11_build 4 = .ok (.iload_n 1, 1) := by decide +kernel
theorem dX11_build_5 : decode cX11_build 5 = .ok (.iaload, 1) := by decide +kernel
theorem dX11_build_6 : decode cX11_build 6 = .ok (.istore_n 2, 1) := by decide +kernel
theorem dX11_build_7 : decode cX11_build 7 = .ok (.iload_n 2, 1) := by decide +kernel
theorem dX11_build_8 : decode cX11_build 8 = .ok (.invokestatic 253, 3) := by decide +kernel
theorem dX11_build_11 : decode cX11_build 11 = .ok (.istore_n 3, 1) := by decide +kernel
theorem dX11_build_12 : decode cX11_build 12 = .ok (.aload_n 0, 1) := by decide +kernel
theorem dX11_build_13 : decode cX11_build 13 = .ok (.getfield 43, 3) := by decide +kernel
theorem dX11_build_16 : decode cX11_build 16 = .ok (.iconst 3, 1) := by decide +kernel
theorem dX11_build_17 : decode cX11_build 17 = .ok (.iload_n 1, 1) := by decide +kernel
theorem dX11_build_18 : decode cX11_build 18 = .ok (.imul, 1) := by decide +kernel
theorem dX11_build_19 : decode cX11_build 19 = .ok (.iaload, 1) := by decide +kernel
theorem dX11_build_20 : decode cX11_build 20 = .ok (.istore 4, 2) := by decide +kernel
theorem dX11_build_22 : decode cX11_build 22 = .ok (.iload_n 3, 1) := by decide +kernel
theorem dX11_build_23 : decode cX11_build 23 = .ok (.iconst 1, 1) := by decide +kernel
theorem dX11_build_24 : decode cX11_build 24 = .ok (.if_icmp .le 16, 3) := by decide +kernel
theorem dX11_build_27 : decode cX11_build 27 = .ok (.aload_n 0, 1) := by decide +kernel
theorem dX11_build_28 : decode cX11_build 28 = .ok (.getfield 43, 3) := by decide +kernel
theorem dX11_build_31 : decode cX11_build 31 = .ok (.iconst 3, 1) := by decide +kernel
theorem dX11_build_32 : decode cX11_build 32 = .ok (.iload_n 1, 1) := by decide +kernel
theorem dX11_build_33 : decode cX11_build 33 = .ok (.imul, 1) := by decide +kernel
theorem dX11_build_34 : decode cX11_build 34 = .ok (.iconst 1, 1) := by decide +kernel
theorem dX11_build_35 : decode cX11_build 35 = .ok (.iadd, 1) := by decide +kernel
theorem dX11_build_36 : decode cX11_build 36 = .ok (.iaload, 1) := by decide +kernel
theorem dX11_build_37 : decode cX11_build 37 = .ok (.goto 4, 3) := by decide +kernel
theorem dX11_build_40 : decode cX11_build 40 = .ok (.iconst (-1), 1) := by decide +kernel
theorem dX11_build_41 : decode cX11_build 41 = .ok (.istore 5, 2) := by decide +kernel
theorem dX11_build_43 : decode cX11_build 43 = .ok (.iload_n 3, 1) := by decide +kernel
theorem dX11_build_44 : decode cX11_build 44 = .ok (.iconst 2, 1) := by decide +kernel
theorem dX11_build_45 : decode cX11_build 45 = .ok (.if_icmp .le 16, 3) := by decide +kernel
theorem dX11_build_48 : decode cX11_build 48 = .ok (.aload_n 0, 1) := by decide +kernel
theorem dX11_build_49 : decode cX11_build 49 = .ok (.getfield 43, 3) := by decide +kernel
theorem dX11_build_52 : decode cX11_build 52 = .ok (.iconst 3, 1) := by decide +kernel
theorem dX11_build_53 : decode cX11_build 53 = .ok (.iload_n 1, 1) := by decide +kernel
theorem dX11_build_54 : decode cX11_build 54 = .ok (.imul, 1) := by decide +kernel
theorem dX11_build_55 : decode cX11_build 55 = .ok (.iconst 2, 1) := by decide +kernel
theorem dX11_build_56 : decode cX11_build 56 = .ok (.iadd, 1) := by decide +kernel
theorem dX11_build_57 : decode cX11_build 57 = .ok (.iaload, 1) := by decide +kernel
theorem dX11_build_58 : decode cX11_build 58 = .ok (.goto 4, 3) := by decide +kernel
theorem dX11_build_61 : decode cX11_build 61 = .ok (.iconst (-1), 1) := by decide +kernel
theorem dX11_build_62 : decode cX11_build 62 = .ok (.istore 6, 2) := by decide +kernel
theorem dX11_build_64 : decode cX11_build 64 = .ok (.aload_n 0, 1) := by decide +kernel
theorem dX11_build_65 : decode cX11_build 65 = .ok (.getfield 16, 3) := by decide +kernel
theorem dX11_build_68 : decode cX11_build 68 = .ok (.iload 4, 2) := by decide +kernel
theorem dX11_build_70 : decode cX11_build 70 = .ok (.iaload, 1) := by decide +kernel
theorem dX11_build_71 : decode cX11_build 71 = .ok (.istore 7, 2) := by decide +kernel
theorem dX11_build_73 : decode cX11_build 73 = .ok (.iload_n 2, 1) := by decide +kernel
theorem dX11_build_74 : decode cX11_build 74 = .ok (.iconst 4, 1) := by decide +kernel
theorem dX11_build_75 : decode cX11_build 75 = .ok (.bipush 10, 2) := by decide +kernel
theorem dX11_build_77 : decode cX11_build 77 = .ok (.invokestatic 84, 3) := by decide +kernel
theorem dX11_build_80 : decode cX11_build 80 = .ok (.ifCond .ne 14, 3) := by decide +kernel
theorem dX11_build_83 : decode cX11_build 83 = .ok (.iload_n 2, 1) := by decide +kernel
theorem dX11_build_84 : decode cX11_build 84 = .ok (.bipush 25, 2) := by decide +kernel
theorem dX11_build_86 : decode cX11_build 86 = .ok (.bipush 28, 2) := by decide +kernel
theorem dX11_build_88 : decode cX11_build 88 = .ok (.invokestatic 84, 3) := by decide +kernel
theorem dX11_build_91 : decode cX11_build 91 = .ok (.ifCond .eq 7, 3) := by decide +kernel
theorem dX11_build_94 : decode cX11_build 94 = .ok (.iconst 1, 1) := by decide +kernel
theorem dX11_build_95 : decode cX11_build 95 = .ok (.goto 4, 3) := by decide +kernel
theorem dX11_build_98 : decode cX11_build 98 = .ok (.iconst 0, 1) := by decide +kernel
theorem dX11_build_99 : decode cX11_build 99 = .ok (.istore 8, 2) := by decide +kernel
theorem dX11_build_101 : decode cX11_build 101 = .ok (.iload 8, 2) := by decide +kernel
theorem dX11_build_103 : decode cX11_build 103 = .ok (.ifCond .eq 7, 3) := by decide +kernel
theorem dX11_build_106 : decode cX11_build 106 = .ok (.iconst 0, 1) := by decide +kernel
theorem dX11_build_107 : decode cX11_build 107 = .ok (.goto 101, 3) := by decide +kernel
theorem dX11_build_110 : decode cX11_build 110 = .ok (.iload_n 2, 1) := by decide +kernel
theorem dX11_build_111 : decode cX11_build 111 = .ok (.bipush 11, 2) := by decide +kernel
theorem dX11_build_113 : decode cX11_build 113 = .ok (.if_icmp .ne 13, 3) := by decide +kernel
theorem dX11_build_116 : decode cX11_build 116 = .ok (.aload_n 0, 1) := by decide +kernel
theorem dX11_build_117 : decode cX11_build 117 = .ok (.getfield 16, 3) := by decide +kernel
theorem dX11_build_120 : decode cX11_build 120 = .ok (.iload 5, 2) := by decide +kernel
theorem dX11_build_122 : decode cX11_build 122 = .ok (.iaload, 1) := by decide +kernel
theorem dX11_build_123 : decode cX11_build 123 = .ok (.goto 85, 3) := by decide +kernel
theorem dX11_build_126 : decode cX11_build 126 = .ok (.iload_n 2, 1) := by decide +kernel
theorem dX11_build_127 : decode cX11_build 127 = .ok (.bipush 29, 2) := by decide +kernel
theorem dX11_build_129 : decode cX11_build 129 = .ok (.if_icmp .ne 16, 3) := by decide +kernel
theorem dX11_build_132 : decode cX11_build 132 = .ok (.iload 7, 2) := by decide +kernel
theorem dX11_build_134 : decode cX11_build 134 = .ok (.aload_n 0, 1) := by decide +kernel
theorem dX11_build_135 : decode cX11_build 135 = .ok (.getfield 16, 3) := by decide +kernel
theorem dX11_build_138 : decode cX11_build 138 = .ok (.iload 5, 2) := by decide +kernel
theorem dX11_build_140 : decode cX11_build 140 = .ok (.iaload, 1) := by decide +kernel
theorem dX11_build_141 : decode cX11_build 141 = .ok (.iadd, 1) := by decide +kernel
theorem dX11_build_142 : decode cX11_build 142 = .ok (.goto 66, 3) := by decide +kernel
theorem dX11_build_145 : decode cX11_build 145 = .ok (.iload_n 2, 1) := by decide +kernel
theorem dX11_build_146 : decode cX11_build 146 = .ok (.bipush 30, 2) := by decide +kernel
theorem dX11_build_148 : decode cX11_build 148 = .ok (.if_icmp .ne 21, 3) := by decide +kernel
theorem dX11_build_151 : decode cX11_build 151 = .ok (.aload_n 0, 1) := by decide +kernel
theorem dX11_build_152 : decode cX11_build 152 = .ok (.getfield 46, 3) := by decide +kernel
theorem dX11_build_155 : decode cX11_build 155 = .ok (.iload_n 1, 1) := by decide +kernel
theorem dX11_build_156 : decode cX11_build 156 = .ok (.iaload, 1) := by decide +kernel
theorem dX11_build_157 : decode cX11_build 157 = .ok (.aload_n 0, 1) := by decide +kernel
theorem dX11_build_158 : decode cX11_build 158 = .ok (.getfield 49, 3) := by decide +kernel
theorem dX11_build_161 : decode cX11_build 161 = .ok (.iload_n 1, 1) := by decide +kernel
theorem dX11_build_162 : decode cX11_build 162 = .ok (.iaload, 1) := by decide +kernel
theorem dX11_build_163 : decode cX11_build 163 = .ok (.isub, 1) := by decide +kernel
theorem dX11_build_164 : decode cX11_build 164 = .ok (.iconst 1, 1) := by decide +kernel
theorem dX11_build_165 : decode cX11_build 165 = .ok (.iadd, 1) := by decide +kernel
theorem dX11_build_166 : decode cX11_build 166 = .ok (.goto 42, 3) := by decide +kernel
theorem dX11_build_169 : decode cX11_build 169 = .ok (.iload_n 2, 1) := by decide +kernel
theorem dX11_build_170 : decode cX11_build 170 = .ok (.bipush 31, 2) := by decide +kernel
theorem dX11_build_172 : decode cX11_build 172 = .ok (.if_icmp .eq 9, 3) := by decide +kernel
theorem dX11_build_175 : decode cX11_build 175 = .ok (.iload_n 2, 1) := by decide +kernel
theorem dX11_build_176 : decode cX11_build 176 = .ok (.bipush 32, 2) := by decide +kernel
theorem dX11_build_178 : decode cX11_build 178 = .ok (.if_icmp .ne 15, 3) := by decide +kernel
theorem dX11_build_181 : decode cX11_build 181 = .ok (.iload 7, 2) := by decide +kernel
theorem dX11_build_183 : decode cX11_build 183 = .ok (.aload_n 0, 1) := by decide +kernel
theorem dX11_build_184 : decode cX11_build 184 = .ok (.getfield 46, 3) := by decide +kernel
theorem dX11_build_187 : decode cX11_build 187 = .ok (.iload_n 1, 1) := by decide +kernel
theorem dX11_build_188 : decode cX11_build 188 = .ok (.iaload, 1) := by decide +kernel
theorem dX11_build_189 : decode cX11_build 189 = .ok (.iadd, 1) := by decide +kernel
theorem dX11_build_190 : decode cX11_build 190 = .ok (.goto 18, 3) := by decide +kernel
theorem dX11_build_193 : decode cX11_build 193 = .ok (.iload_n 2, 1) := by decide +kernel
theorem dX11_build_194 : decode cX11_build 194 = .ok (.bipush 33, 2) := by decide +kernel
theorem dX11_build_196 : decode cX11_build 196 = .ok (.if_icmp .ne 10, 3) := by decide +kernel
theorem dX11_build_199 : decode cX11_build 199 = .ok (.iload 7, 2) := by decide +kernel
theorem dX11_build_201 : decode cX11_build 201 = .ok (.iconst 4, 1) := by decide +kernel
theorem dX11_build_202 : decode cX11_build 202 = .ok (.isub, 1) := by decide +kernel
theorem dX11_build_203 : decode cX11_build 203 = .ok (.goto 5, 3) := by decide +kernel
theorem dX11_build_206 : decode cX11_build 206 = .ok (.iload 7, 2) := by decide +kernel
theorem dX11_build_208 : decode cX11_build 208 = .ok (.istore 9, 2) := by decide +kernel
theorem dX11_build_210 : decode cX11_build 210 = .ok (.aload_n 0, 1) := by decide +kernel
theorem dX11_build_211 : decode cX11_build 211 = .ok (.iload_n 2, 1) := by decide +kernel
theorem dX11_build_212 : decode cX11_build 212 = .ok (.iload 9, 2) := by decide +kernel
theorem dX11_build_214 : decode cX11_build 214 = .ok (.iload 4, 2) := by decide +kernel
theorem dX11_build_216 : decode cX11_build 216 = .ok (.iload 5, 2) := by decide +kernel
theorem dX11_build_218 : decode cX11_build 218 = .ok (.iload 6, 2) := by decide +kernel
theorem dX11_build_220 : decode cX11_build 220 = .ok (.aload_n 0, 1) := by decide +kernel
theorem dX11_build_221 : decode cX11_build 221 = .ok (.getfield 46, 3) := by decide +kernel
theorem dX11_build_224 : decode cX11_build 224 = .ok (.iload_n 1, 1) := by decide +kernel
theorem dX11_build_225 : decode cX11_build 225 = .ok (.iaload, 1) := by decide +kernel
theorem dX11_build_226 : decode cX11_build 226 = .ok (.aload_n 0, 1) := by decide +kernel
theorem dX11_build_227 : decode cX11_build 227 = .ok (.getfield 49, 3) := by decide +kernel
theorem dX11_build_230 : decode cX11_build 230 = .ok (.iload_n 1, 1) := by decide +kernel
theorem dX11_build_231 : decode cX11_build 231 = .ok (.iaload, 1) := by decide +kernel
theorem dX11_build_232 : decode cX11_build 232 = .ok (.invokevirtual 222, 3) := by decide +kernel
theorem dX11_build_235 : decode cX11_build 235 = .ok (.ireturn, 1) := by decide +kernel
theorem dX11_deliver_0 : decode cX11_deliver 0 = .ok (.iload_n 1, 1) := by decide +kernel
theorem dX11_deliver_1 : decode cX11_deliver 1 = .ok (.istore_n 3, 1) := by decide +kernel
theorem dX11_deliver_2 : decode cX11_deliver 2 = .ok (.iload_n 2, 1) := by decide +kernel
theorem dX11_deliver_3 : decode cX11_deliver 3 = .ok (.istore 4, 2) := by decide +kernel
theorem dX11_deliver_5 : decode cX11_deliver 5 = .ok (.aload_n 0, 1) := by decide +kernel
theorem dX11_deliver_6 : decode cX11_deliver 6 = .ok (.getfield 231, 3) := by decide +kernel
theorem dX11_deliver_9 : decode cX11_deliver 9 = .ok (.ifCond .le 270, 3) := by decide +kernel
theorem dX11_deliver_12 : decode cX11_deliver 12 = .ok (.aload_n 0, 1) := by decide +kernel
theorem dX11_deliver_13 : decode cX11_deliver 13 = .ok (.getfield 231, 3) := by decide +kernel
theorem dX11_deliver_16 : decode cX11_deliver 16 = .ok (.iconst 1, 1) := by decide +kernel
theorem dX11_deliver_17 : decode cX11_deliver 17 = .ok (.isub, 1) := by decide +kernel
theorem dX11_deliver_18 : decode cX11_deliver 18 = .ok (.istore 5, 2) := by decide +kernel
theorem dX11_deliver_20 : decode cX11_deliver 20 = .ok (.aload_n 0, 1) := by decide +kernel
theorem dX11_deliver_21 : decode cX11_deliver 21 = .ok (.getfield 34, 3) := by decide +kernel
theorem dX11_deliver_24 : decode cX11_deliver 24 = .ok (.iload 5, 2) := by decide +kernel
theorem dX11_deliver_26 : decode cX11_deliver 26 = .ok (.iaload, 1) := by decide +kernel
theorem dX11_deliver_27 : decode cX11_deliver 27 = .ok (.bipush 35, 2) := by decide +kernel
theorem dX11_deliver_29 : decode cX11_deliver 29 = .ok (.if_icmp .ne 89, 3) := by decide +kernel
theorem dX11_deliver_32 : decode cX11_deliver 32 = .ok (.aload_n 0, 1) := by decide +kernel
theorem dX11_deliver_33 : decode cX11_deliver 33 = .ok (.getfield 40, 3) := by decide +kernel
theorem dX11_deliver_36 : decode cX11_deliver 36 = .ok (.iload 5, 2) := by decide +kernel
theorem dX11_deliver_38 : decode cX11_deliver 38 = .ok (.iaload, 1) := by decide +kernel
theorem dX11_deliver_39 : decode cX11_deliver 39 = .ok (.ifCond .ne 79, 3) := by decide +kernel
theorem dX11_deliver_42 : decode cX11_deliver 42 = .ok (.aload_n 0, 1) := by decide +kernel
theorem dX11_deliver_43 : decode cX11_deliver 43 = .ok (.getfield 43, 3) := by decide +kernel
theorem dX11_deliver_46 : decode cX11_deliver 46 = .ok (.iconst 3, 1) := by decide +kernel
theorem dX11_deliver_47 : decode cX11_deliver 47 = .ok (.iload 5, 2) := by decide +kernel
theorem dX11_deliver_49 : decode cX11_deliver 49 = .ok (.imul, 1) := by decide +kernel
theorem dX11_deliver_50 : decode cX11_deliver 50 = .ok (.iload_n 3, 1) := by decide +kernel
theorem dX11_deliver_51 : decode cX11_deliver 51 = .ok (.iastore, 1) := by decide +kernel
theorem dX11_deliver_52 : decode cX11_deliver 52 = .ok (.aload_n 0, 1) := by decide +kernel
theorem dX11_deliver_53 : decode cX11_deliver 53 = .ok (.aload_n 0, 1) := by decide +kernel
theorem dX11_deliver_54 : decode cX11_deliver 54 = .ok (.getfield 115, 3) := by decide +kernel
theorem dX11_deliver_57 : decode cX11_deliver 57 = .ok (.iconst 2, 1) := by decide +kernel
theorem dX11_deliver_58 : decode cX11_deliver 58 = .ok (.if_icmp .ne 7, 3) := by decide +kernel
theorem dX11_deliver_61 : decode cX11_deliver 61 = .ok (.iconst 1, 1) := by decide +kernel
theorem dX11_deliver_62 : decode cX11_deliver 62 = .ok (.goto 4, 3) := by decide +kernel
theorem dX11_deliver_65 : decode cX11_deliver 65 = .ok (.iconst 0, 1) := by decide +kernel
theorem dX11_deliver_66 : decode cX11_deliver 66 = .ok (.invokevirtual 127, 3) := by decide +kernel
theorem dX11_deliver_69 : decode cX11_deliver 69 = .ok (.ifCond .eq 27, 3) := by decide +kernel
theorem dX11_deliver_72 : decode cX11_deliver 72 = .ok (.aload_n 0, 1) := by decide +kernel
theorem dX11_deliver_73 : decode cX11_deliver 73 = .ok (.aload_n 0, 1) := by decide +kernel
theorem dX11_deliver_74 : decode cX11_deliver 74 = .ok (.getfield 115, 3) := by decide +kernel
theorem dX11_deliver_77 : decode cX11_deliver 77 = .ok (.iconst 2, 1) := by decide +kernel
theorem dX11_deliver_78 : decode cX11_deliver 78 = .ok (.if_icmp .ne 7, 3) := by decide +kernel
theorem dX11_deliver_81 : decode cX11_deliver 81 = .ok (.iconst 1, 1) := by decide +kernel
theorem dX11_deliver_82 : decode cX11_deliver 82 = .ok (.goto 4, 3) := by decide +kernel
theorem dX11_deliver_85 : decode cX11_deliver 85 = .ok (.iconst 0, 1) := by decide +kernel
theorem dX11_deliver_86 : decode cX11_deliver 86 = .ok (.invokevirtual 127, 3) := by decide +kernel
theorem dX11_deliver_89 : decode cX11_deliver 89 = .ok (.ifCond .eq 7, 3) := by decide +kernel
theorem dX11_deliver_92 : decode cX11_deliver 92 = .ok (.iconst 1, 1) := by decide +kernel
theorem dX11_deliver_93 : decode cX11_deliver 93 = .ok (.goto 4, 3) := by decide +kernel
theorem dX11_deliver_96 : decode cX11_deliver 96 = .ok (.iconst 0, 1) := by decide +kernel
theorem dX11_deliver_97 : decode cX11_deliver 97 = .ok (.istore 6, 2) := by decide +kernel
theorem dX11_deliver_99 : decode cX11_deliver 99 = .ok (.aload_n 0, 1) := by decide +kernel
theorem dX11_deliver_100 : decode cX11_deliver 100 = .ok (.getfield 40, 3) := by decide +kernel
theorem dX11_deliver_103 : decode cX11_deliver 103 = .ok (.iload 5, 2) := by decide +kernel
theorem dX11_deliver_105 : decode cX11_deliver 105 = .ok (.iconst 1, 1) := by decide +kernel
theorem dX11_deliver_106 : decode cX11_deliver 106 = .ok (.iastore, 1) := by decide +kernel
theorem dX11_deliver_107 : decode cX11_deliver 107 = .ok (.iload 6, 2) := by decide +kernel
theorem dX11_deliver_109 : decode cX11_deliver 109 = .ok (.ifCond .eq 7, 3) := by decide +kernel
theorem dX11_deliver_112 : decode cX11_deliver 112 = .ok (.iconst 0, 1) := by decide +kernel
theorem dX11_deliver_113 : decode cX11_deliver 113 = .ok (.goto 4, 3) := by decide +kernel
theorem dX11_deliver_116 : decode cX11_deliver 116 = .ok (.iconst (-1), 1) := by decide +kernel
theorem dX11_deliver_117 : decode cX11_deliver 117 = .ok (.ireturn, 1) := by decide +kernel
theorem dX11_deliver_118 : decode cX11_deliver 118 = .ok (.aload_n 0, 1) := by decide +kernel
theorem dX11_deliver_119 : decode cX11_deliver 119 = .ok (.getfield 34, 3) := by decide +kernel
theorem dX11_deliver_122 : decode cX11_deliver 122 = .ok (.iload 5, 2) := by decide +kernel
theorem dX11_deliver_124 : decode cX11_deliver 124 = .ok (.iaload, 1) := by decide +kernel
theorem dX11_deliver_125 : decode cX11_deliver 125 = .ok (.bipush 35, 2) := by decide +kernel
theorem dX11_deliver_127 : decode cX11_deliver 127 = .ok (.if_icmp .eq 89, 3) := by decide +kernel
theorem dX11_deliver_130 : decode cX11_deliver 130 = .ok (.aload_n 0, 1) := by decide +kernel
theorem dX11_deliver_131 : decode cX11_deliver 131 = .ok (.iload 5, 2) := by decide +kernel
theorem dX11_deliver_133 : decode cX11_deliver 133 = .ok (.aload_n 0, 1) := by decide +kernel
theorem dX11_deliver_134 : decode cX11_deliver 134 = .ok (.getfield 40, 3) := by decide +kernel
theorem dX11_deliver_137 : decode cX11_deliver 137 = .ok (.iload 5, 2) := by decide +kernel
theorem dX11_deliver_139 : decode cX11_deliver 139 = .ok (.iaload, 1) := by decide +kernel
theorem dX11_deliver_140 : decode cX11_deliver 140 = .ok (.aload_n 0, 1) := by decide +kernel
theorem dX11_deliver_141 : decode cX11_deliver 141 = .ok (.getfield 16, 3) := by decide +kernel
theorem dX11_deliver_144 : decode cX11_deliver 144 = .ok (.iload_n 3, 1) := by decide +kernel
theorem dX11_deliver_145 : decode cX11_deliver 145 = .ok (.iaload, 1) := by decide +kernel
theorem dX11_deliver_146 : decode cX11_deliver 146 = .ok (.invokevirtual 256, 3) := by decide +kernel
theorem dX11_deliver_149 : decode cX11_deliver 149 = .ok (.ifCond .ne 11, 3) := by decide +kernel
theorem dX11_deliver_152 : decode cX11_deliver 152 = .ok (.aload_n 0, 1) := by decide +kernel
theorem dX11_deliver_153 : decode cX11_deliver 153 = .ok (.iload 4, 2) := by decide +kernel
theorem dX11_deliver_155 : decode cX11_deliver 155 = .ok (.putfield 118, 3) := by decide +kernel
theorem dX11_deliver_158 : decode cX11_deliver 158 = .ok (.iconst (-1), 1) := by decide +kernel
theorem dX11_deliver_159 : decode cX11_deliver 159 = .ok (.ireturn, 1) := by decide +kernel
theorem dX11_deliver_160 : decode cX11_deliver 160 = .ok (.aload_n 0, 1) := by decide +kernel
theorem dX11_deliver_161 : decode cX11_deliver 161 = .ok (.getfield 43, 3) := by decide +kernel
theorem dX11_deliver_164 : decode cX11_deliver 164 = .ok (.iconst 3, 1) := by decide +kernel
theorem dX11_deliver_165 : decode cX11_deliver 165 = .ok (.iload 5, 2) := by decide +kernel
theorem dX11_deliver_167 : decode cX11_deliver 167 = .ok (.imul, 1) := by decide +kernel
theorem dX11_deliver_168 : decode cX11_deliver 168 = .ok (.aload_n 0, 1) := by decide +kernel
theorem dX11_deliver_169 : decode cX11_deliver 169 = .ok (.getfield 40, 3) := by decide +kernel
theorem dX11_deliver_172 : decode cX11_deliver 172 = .ok (.iload 5, 2) := by decide +kernel
theorem dX11_deliver_174 : decode cX11_deliver 174 = .ok (.iaload, 1) := by decide +kernel
theorem dX11_deliver_175 : decode cX11_deliver 175 = .ok (.iadd, 1) := by decide +kernel
theorem dX11_deliver_176 : decode cX11_deliver 176 = .ok (.iload_n 3, 1) := by decide +kernel
theorem dX11_deliver_177 : decode cX11_deliver 177 = .ok (.iastore, 1) := by decide +kernel
theorem dX11_deliver_178 : decode cX11_deliver 178 = .ok (.aload_n 0, 1) := by decide +kernel
theorem dX11_deliver_179 : decode cX11_deliver 179 = .ok (.getfield 40, 3) := by decide +kernel
theorem dX11_deliver_182 : decode cX11_deliver 182 = .ok (.iload 5, 2) := by decide +kernel
theorem dX11_deliver_184 : decode cX11_deliver 184 = .ok (.aload_n 0, 1) := by decide +kernel
theorem dX11_deliver_185 : decode cX11_deliver 185 = .ok (.getfield 40, 3) := by decide +kernel
theorem dX11_deliver_188 : decode cX11_deliver 188 = .ok (.iload 5, 2) := by decide +kernel
theorem dX11_deliver_190 : decode cX11_deliver 190 = .ok (.iaload, 1) := by decide +kernel
theorem dX11_deliver_191 : decode cX11_deliver 191 = .ok (.iconst 1, 1) := by decide +kernel
theorem dX11_deliver_192 : decode cX11_deliver 192 = .ok (.iadd, 1) := by decide +kernel
theorem dX11_deliver_193 : decode cX11_deliver 193 = .ok (.iastore, 1) := by decide +kernel
theorem dX11_deliver_194 : decode cX11_deliver 194 = .ok (.aload_n 0, 1) := by decide +kernel
theorem dX11_deliver_195 : decode cX11_deliver 195 = .ok (.getfield 40, 3) := by decide +kernel
theorem dX11_deliver_198 : decode cX11_deliver 198 = .ok (.iload 5, 2) := by decide +kernel
theorem dX11_deliver_200 : decode cX11_deliver 200 = .ok (.iaload, 1) := by decide +kernel
theorem dX11_deliver_201 : decode cX11_deliver 201 = .ok (.aload_n 0, 1) := by decide +kernel
theorem dX11_deliver_202 : decode cX11_deliver 202 = .ok (.getfield 34, 3) := by decide +kernel
theorem dX11_deliver_205 : decode cX11_deliver 205 = .ok (.iload 5, 2) := by decide +kernel
theorem dX11_deliver_207 : decode cX11_deliver 207 = .ok (.iaload, 1) := by decide +kernel
theorem dX11_deliver_208 : decode cX11_deliver 208 = .ok (.invokestatic 253, 3) := by decide +kernel
theorem dX11_deliver_211 : decode cX11_deliver 211 = .ok (.if_icmp .ge 5, 3) := by decide +kernel
theorem dX11_deliver_214 : decode cX11_deliver 214 = .ok (.iconst 0, 1) := by decide +kernel
theorem dX11_deliver_215 : decode cX11_deliver 215 = .ok (.ireturn, 1) := by decide +kernel
theorem dX11_deliver_216 : decode cX11_deliver 216 = .ok (.aload_n 0, 1) := by decide +kernel
theorem dX11_deliver_217 : decode cX11_deliver 217 = .ok (.aload_n 0, 1) := by decide +kernel
theorem dX11_deliver_218 : decode cX11_deliver 218 = .ok (.getfield 115, 3) := by decide +kernel
theorem dX11_deliver_221 : decode cX11_deliver 221 = .ok (.iconst 2, 1) := by decide +kernel
theorem dX11_deliver_222 : decode cX11_deliver 222 = .ok (.if_icmp .ne 7, 3) := by decide +kernel
theorem dX11_deliver_225 : decode cX11_deliver 225 = .ok (.iconst 1, 1) := by decide +kernel
theorem dX11_deliver_226 : decode cX11_deliver 226 = .ok (.goto 4, 3) := by decide +kernel
theorem dX11_deliver_229 : decode cX11_deliver 229 = .ok (.iconst 0, 1) := by decide +kernel
theorem dX11_deliver_230 : decode cX11_deliver 230 = .ok (.invokevirtual 127, 3) := by decide +kernel
theorem dX11_deliver_233 : decode cX11_deliver 233 = .ok (.ifCond .ne 5, 3) := by decide +kernel
theorem dX11_deliver_236 : decode cX11_deliver 236 = .ok (.iconst (-1), 1) := by decide +kernel
theorem dX11_deliver_237 : decode cX11_deliver 237 = .ok (.ireturn, 1) := by decide +kernel
theorem dX11_deliver_238 : decode cX11_deliver 238 = .ok (.aload_n 0, 1) := by decide +kernel
theorem dX11_deliver_239 : decode cX11_deliver 239 = .ok (.getfield 34, 3) := by decide +kernel
theorem dX11_deliver_242 : decode cX11_deliver 242 = .ok (.iload 5, 2) := by decide +kernel
theorem dX11_deliver_244 : decode cX11_deliver 244 = .ok (.iaload, 1) := by decide +kernel
theorem dX11_deliver_245 : decode cX11_deliver 245 = .ok (.bipush 35, 2) := by decide +kernel
theorem dX11_deliver_247 : decode cX11_deliver 247 = .ok (.if_icmp .ne 7, 3) := by decide +kernel
theorem dX11_deliver_250 : decode cX11_deliver 250 = .ok (.iload_n 3, 1) := by decide +kernel
theorem dX11_deliver_251 : decode cX11_deliver 251 = .ok (.goto 9, 3) := by decide +kernel
theorem dX11_deliver_254 : decode cX11_deliver 254 = .ok (.aload_n 0, 1) := by decide +kernel
theorem dX11_deliver_255 : decode cX11_deliver 255 = .ok (.iload 5, 2) := by decide +kernel
theorem dX11_deliver_257 : decode cX11_deliver 257 = .ok (.invokevirtual 259, 3) := by decide +kernel
theorem dX11_deliver_260 : decode cX11_deliver 260 = .ok (.istore_n 3, 1) := by decide +kernel
theorem dX11_deliver_261 : decode cX11_deliver 261 = .ok (.aload_n 0, 1) := by decide +kernel
theorem dX11_deliver_262 : decode cX11_deliver 262 = .ok (.getfield 37, 3) := by decide +kernel
theorem dX11_deliver_265 : decode cX11_deliver 265 = .ok (.iload 5, 2) := by decide +kernel
theorem dX11_deliver_267 : decode cX11_deliver 267 = .ok (.iaload, 1) := by decide +kernel
theorem dX11_deliver_268 : decode cX11_deliver 268 = .ok (.istore 4, 2) := by decide +kernel
theorem dX11_deliver_270 : decode cX11_deliver 270 = .ok (.aload_n 0, 1) := by decide +kernel
theorem dX11_deliver_271 : decode cX11_deliver 271 = .ok (.iload 5, 2) := by decide +kernel
theorem dX11_deliver_273 : decode cX11_deliver 273 = .ok (.putfield 231, 3) := by decide +kernel
theorem dX11_deliver_276 : decode cX11_deliver 276 = .ok (.goto (-271), 3) := by decide +kernel
theorem dX11_deliver_279 : decode cX11_deliver 279 = .ok (.aload_n 0, 1) := by decide +kernel
theorem dX11_deliver_280 : decode cX11_deliver 280 = .ok (.iload_n 3, 1) := by decide +kernel
theorem dX11_deliver_281 : decode cX11_deliver 281 = .ok (.putfield 262, 3) := by decide +kernel
theorem dX11_deliver_284 : decode cX11_deliver 284 = .ok (.aload_n 0, 1) := by decide +kernel
theorem dX11_deliver_285 : decode cX11_deliver 285 = .ok (.iload 4, 2) := by decide +kernel
theorem dX11_deliver_287 : decode cX11_deliver 287 = .ok (.putfield 265, 3) := by decide +kernel
theorem dX11_deliver_290 : decode cX11_deliver 290 = .ok (.iconst 1, 1) := by decide +kernel
theorem dX11_deliver_291 : decode cX11_deliver 291 = .ok (.ireturn, 1) := by decide +kernel
theorem dX11_readTerm_0 : decode cX11_readTerm 0 = .ok (.aload_n 0, 1) := by decide +kernel
theorem dX11_readTerm_1 : decode cX11_readTerm 1 = .ok (.iconst 0, 1) := by decide +kernel
theorem dX11_readTerm_2 : decode cX11_readTerm 2 = .ok (.putfield 231, 3) := by decide +kernel
theorem dX11_readTerm_5 : decode cX11_readTerm 5 = .ok (.iconst 0, 1) := by decide +kernel
theorem dX11_readTerm_6 : decode cX11_readTerm 6 = .ok (.istore_n 1, 1) := by decide +kernel
theorem dX11_readTerm_7 : decode cX11_readTerm 7 = .ok (.iload_n 1, 1) := by decide +kernel
theorem dX11_readTerm_8 : decode cX11_readTerm 8 = .ok (.ifCond .ne 90, 3) := by decide +kernel
theorem dX11_readTerm_11 : decode cX11_readTerm 11 = .ok (.aload_n 0, 1) := by decide +kernel
theorem dX11_readTerm_12 : decode cX11_readTerm 12 = .ok (.getfield 102, 3) := by decide +kernel
theorem dX11_readTerm_15 : decode cX11_readTerm 15 = .ok (.istore_n 2, 1) := by decide +kernel
theorem dX11_readTerm_16 : decode cX11_readTerm 16 = .ok (.aload_n 0, 1) := by decide +kernel
theorem dX11_readTerm_17 : decode cX11_readTerm 17 = .ok (.getfield 231, 3) := by decide +kernel
theorem dX11_readTerm_20 : decode cX11_readTerm 20 = .ok (.bipush 8, 2) := by decide +kernel
theorem dX11_readTerm_22 : decode cX11_readTerm 22 = .ok (.if_icmp .lt 9, 3) := by decide +kernel
theorem dX11_readTerm_25 : decode cX11_readTerm 25 = .ok (.aload_n 0, 1) := by decide +kernel
theorem dX11_readTerm_26 : decode cX11_readTerm 26 = .ok (.iload_n 2, 1) := by decide +kernel
theorem dX11_readTerm_27 : decode cX11_readTerm 27 = .ok (.invokevirtual 121, 3) := by decide +kernel
theorem dX11_readTerm_30 : decode cX11_readTerm 30 = .ok (.ireturn, 1) := by decide +kernel
theorem dX11_readTerm_31 : decode cX11_readTerm 31 = .ok (.aload_n 0, 1) := by decide +kernel
theorem dX11_readTerm_32 : decode cX11_readTerm 32 = .ok (.getfield 115, 3) := by decide +kernel
theorem dX11_readTerm_35 : decode cX11_readTerm 35 = .ok (.iconst 1, 1) := by decide +kernel
theorem dX11_readTerm_36 : decode cX11_readTerm 36 = .ok (.if_icmp .ne 17, 3) := by decide +kernel
theorem dX11_readTerm_39 : decode cX11_readTerm 39 = .ok (.aload_n 0, 1) := by decide +kernel
theorem dX11_readTerm_40 : decode cX11_readTerm 40 = .ok (.invokevirtual 124, 3) := by decide +kernel
theorem dX11_readTerm_43 : decode cX11_readTerm 43 = .ok (.aload_n 0, 1) := by decide +kernel
theorem dX11_readTerm_44 : decode cX11_readTerm 44 = .ok (.iload_n 2, 1) := by decide +kernel
theorem dX11_readTerm_45 : decode cX11_readTerm 45 = .ok (.invokevirtual 268, 3) := by decide +kernel
theorem dX11_readTerm_48 : decode cX11_readTerm 48 = .ok (.ifCond .ne 47, 3) := by decide +kernel
theorem dX11_readTerm_51 : decode cX11_readTerm 51 = .ok (.iconst 0, 1) := by decide +kernel
theorem dX11_readTerm_52 : decode cX11_readTerm 52 = .ok (.ireturn, 1) := by decide +kernel
theorem dX11_readTerm_53 : decode cX11_readTerm 53 = .ok (.aload_n 0, 1) := by decide +kernel
theorem dX11_readTerm_54 : decode cX11_readTerm 54 = .ok (.getfield 115, 3) := by decide +kernel
theorem dX11_readTerm_57 : decode cX11_readTerm 57 = .ok (.iconst 3, 1) := by decide +kernel
theorem dX11_readTerm_58 : decode cX11_readTerm 58 = .ok (.if_icmp .ne 10, 3) := by decide +kernel
theorem dX11_readTerm_61 : decode cX11_readTerm 61 = .ok (.aload_n 0, 1) := by decide +kernel
theorem dX11_readTerm_62 : decode cX11_readTerm 62 = .ok (.invokevirtual 271, 3) := by decide +kernel
theorem dX11_readTerm_65 : decode cX11_readTerm 65 = .ok (.goto 4, 3) := by decide +kernel
theorem dX11_readTerm_68 : decode cX11_readTerm 68 = .ok (.iconst (-1), 1) := by decide +kernel
theorem dX11_readTerm_69 : decode cX11_readTerm 69 = .ok (.istore_n 3, 1) := by decide +kernel
theorem dX11_readTerm_70 : decode cX11_readTerm 70 = .ok (.aload_n 0, 1) := by decide +kernel
theorem dX11_readTerm_71 : decode cX11_readTerm 71 = .ok (.iload_n 3, 1) := by decide +kernel
theorem dX11_readTerm_72 : decode cX11_readTerm 72 = .ok (.ifCond .lt 7, 3) := by decide +kernel
theorem dX11_readTerm_75 : decode cX11_readTerm 75 = .ok (.iconst 1, 1) := by decide +kernel
theorem dX11_readTerm_76 : decode cX11_readTerm 76 = .ok (.goto 4, 3) := by decide +kernel
theorem dX11_readTerm_79 : decode cX11_readTerm 79 = .ok (.iconst 0, 1) := by decide +kernel
theorem dX11_readTerm_80 : decode cX11_readTerm 80 = .ok (.invokevirtual 127, 3) := by decide +kernel
theorem dX11_readTerm_83 : decode cX11_readTerm 83 = .ok (.ifCond .ne 5, 3) := by decide +kernel
theorem dX11_readTerm_86 : decode cX11_readTerm 86 = .ok (.iconst 0, 1) := by decide +kernel
theorem dX11_readTerm_87 : decode cX11_readTerm 87 = .ok (.ireturn, 1) := by decide +kernel
theorem dX11_readTerm_88 : decode cX11_readTerm 88 = .ok (.aload_n 0, 1) := by decide +kernel
theorem dX11_readTerm_89 : decode cX11_readTerm 89 = .ok (.iload_n 3, 1) := by decide +kernel
theorem dX11_readTerm_90 : decode cX11_readTerm 90 = .ok (.iload_n 2, 1) := by decide +kernel
theorem dX11_readTerm_91 : decode cX11_readTerm 91 = .ok (.invokevirtual 274, 3) := by decide +kernel
theorem dX11_readTerm_94 : decode cX11_readTerm 94 = .ok (.istore_n 1, 1) := by decide +kernel
theorem dX11_readTerm_95 : decode cX11_readTerm 95 = .ok (.goto (-88), 3) := by decide +kernel
theorem dX11_readTerm_98 : decode cX11_readTerm 98 = .ok (.iload_n 1, 1) := by decide +kernel
theorem dX11_readTerm_99 : decode cX11_readTerm 99 = .ok (.ifCond .le 7, 3) := by decide +kernel
theorem dX11_readTerm_102 : decode cX11_readTerm 102 = .ok (.iconst 1, 1) := by decide +kernel
theorem dX11_readTerm_103 : decode cX11_readTerm 103 = .ok (.goto 4, 3) := by decide +kernel
theorem dX11_readTerm_106 : decode cX11_readTerm 106 = .ok (.iconst 0, 1) := by decide +kernel
theorem dX11_readTerm_107 : decode cX11_readTerm 107 = .ok (.ireturn, 1) := by decide +kernel
theorem dX11_isConstant_0 : decode cX11_isConstant 0 = .ok (.iconst 0, 1) := by decide +kernel
theorem dX11_isConstant_1 : decode cX11_isConstant 1 = .ok (.istore_n 1, 1) := by decide +kernel
theorem dX11_isConstant_2 : decode cX11_isConstant 2 = .ok (.iconst 0, 1) := by decide +kernel
theorem dX11_isConstant_3 : decode cX11_isConstant 3 = .ok (.istore_n 2, 1) := by decide +kernel
theorem dX11_isConstant_4 : decode cX11_isConstant 4 = .ok (.iload_n 2, 1) := by decide +kernel
theorem dX11_isConstant_5 : decode cX11_isConstant 5 = .ok (.aload_n 0, 1) := by decide +kernel
theorem dX11_isConstant_6 : decode cX11_isConstant 6 = .ok (.getfield 228, 3) := by decide +kernel
theorem dX11_isConstant_9 : decode cX11_isConstant 9 = .ok (.if_icmp .ge 33, 3) := by decide +kernel
theorem dX11_isConstant_12 : decode cX11_isConstant 12 = .ok (.iload_n 1, 1) := by decide +kernel
theorem dX11_isConstant_13 : decode cX11_isConstant 13 = .ok (.ifCond .ne 17, 3) := by decide +kernel
theorem dX11_isConstant_16 : decode cX11_isConstant 16 = .ok (.aload_n 0, 1) := by decide +kernel
theorem dX11_isConstant_17 : decode cX11_isConstant 17 = .ok (.getfield 56, 3) := by decide +kernel
theorem dX11_isConstant_20 : decode cX11_isConstant 20 = .ok (.iload_n 2, 1) := by decide +kernel
theorem dX11_isConstant_21 : decode cX11_isConstant 21 = .ok (.laload, 1) := by decide +kernel
theorem dX11_isConstant_22 : decode cX11_isConstant 22 = .ok (.aload_n 0, 1) := by decide +kernel
theorem dX11_isConstant_23 : decode cX11_isConstant 23 = .ok (.getfield 105, 3) := by decide +kernel
theorem dX11_isConstant_26 : decode cX11_isConstant 26 = .ok (.lcmp, 1) := by decide +kernel
theorem dX11_isConstant_27 : decode cX11_isConstant 27 = .ok (.ifCond .ne 7, 3) := by decide +kernel
theorem dX11_isConstant_30 : decode cX11_isConstant 30 = .ok (.iconst 1, 1) := by decide +kernel
theorem dX11_isConstant_31 : decode cX11_isConstant 31 = .ok (.goto 4, 3) := by decide +kernel
theorem dX11_isConstant_34 : decode cX11_isConstant 34 = .ok (.iconst 0, 1) := by decide +kernel
theorem dX11_isConstant_35 : decode cX11_isConstant 35 = .ok (.istore_n 1, 1) := by decide +kernel
theorem dX11_isConstant_36 : decode cX11_isConstant 36 = .ok (.iinc 2 1, 3) := by decide +kernel
theorem dX11_isConstant_39 : decode cX11_isConstant 39 = .ok (.goto (-35), 3) := by decide +kernel
theorem dX11_isConstant_42 : decode cX11_isConstant 42 = .ok (.iload_n 1, 1) := by decide +kernel
theorem dX11_isConstant_43 : decode cX11_isConstant 43 = .ok (.ireturn, 1) := by decide +kernel
theorem dX11_bitsOf_0 : decode cX11_bitsOf 0 = .ok (.iload_n 0, 1) := by decide +kernel
theorem dX11_bitsOf_1 : decode cX11_bitsOf 1 = .ok (.ifCond .ne 7, 3) := by decide +kernel
theorem dX11_bitsOf_4 : decode cX11_bitsOf 4 = .ok (.iconst 1, 1) := by decide +kernel
theorem dX11_bitsOf_5 : decode cX11_bitsOf 5 = .ok (.goto 17, 3) := by decide +kernel
theorem dX11_bitsOf_8 : decode cX11_bitsOf 8 = .ok (.iload_n 0, 1) := by decide +kernel
theorem dX11_bitsOf_9 : decode cX11_bitsOf 9 = .ok (.iconst 4, 1) := by decide +kernel
theorem dX11_bitsOf_10 : decode cX11_bitsOf 10 = .ok (.if_icmp .le 11, 3) := by decide +kernel
theorem dX11_bitsOf_13 : decode cX11_bitsOf 13 = .ok (.iconst 2, 1) := by decide +kernel
theorem dX11_bitsOf_14 : decode cX11_bitsOf 14 = .ok (.iload_n 0, 1) := by decide +kernel
theorem dX11_bitsOf_15 : decode cX11_bitsOf 15 = .ok (.iconst 4, 1) := by decide +kernel
theorem dX11_bitsOf_16 : decode cX11_bitsOf 16 = .ok (.isub, 1) := by decide +kernel
theorem dX11_bitsOf_17 : decode cX11_bitsOf 17 = .ok (.imul, 1) := by decide +kernel
theorem dX11_bitsOf_18 : decode cX11_bitsOf 18 = .ok (.goto 4, 3) := by decide +kernel
theorem dX11_bitsOf_21 : decode cX11_bitsOf 21 = .ok (.iload_n 0, 1) := by decide +kernel
theorem dX11_bitsOf_22 : decode cX11_bitsOf 22 = .ok (.ireturn, 1) := by decide +kernel
theorem dX11_allBits_0 : decode cX11_allBits 0 = .ok (.iconst 0, 1) := by decide +kernel
theorem dX11_allBits_1 : decode cX11_allBits 1 = .ok (.istore_n 1, 1) := by decide +kernel
theorem dX11_allBits_2 : decode cX11_allBits 2 = .ok (.iconst 0, 1) := by decide +kernel
theorem dX11_allBits_3 : decode cX11_allBits 3 = .ok (.istore_n 2, 1) := by decide +kernel
theorem dX11_allBits_4 : decode cX11_allBits 4 = .ok (.iload_n 2, 1) := by decide +kernel
theorem dX11_allBits_5 : decode cX11_allBits 5 = .ok (.aload_n 0, 1) := by decide +kernel
theorem dX11_allBits_6 : decode cX11_allBits 6 = .ok (.getfield 228, 3) := by decide +kernel
theorem dX11_allBits_9 : decode cX11_allBits 9 = .ok (.if_icmp .ge 26, 3) := by decide +kernel
theorem dX11_allBits_12 : decode cX11_allBits 12 = .ok (.iload_n 1, 1) := by decide +kernel
theorem dX11_allBits_13 : decode cX11_allBits 13 = .ok (.aload_n 0, 1) := by decide +kernel
theorem dX11_allBits_14 : decode cX11_allBits 14 = .ok (.getfield 16, 3) := by decide +kernel
theorem dX11_allBits_17 : decode cX11_allBits 17 = .ok (.aload_n 0, 1) := by decide +kernel
theorem dX11_allBits_18 : decode cX11_allBits 18 = .ok (.getfield 59, 3) := by decide +kernel
theorem dX11_allBits_21 : decode cX11_allBits 21 = .ok (.iload_n 2, 1) := by decide +kernel
theorem dX11_allBits_22 : decode cX11_allBits 22 = .ok (.iaload, 1) := by decide +kernel
theorem dX11_allBits_23 : decode cX11_allBits 23 = .ok (.iaload, 1) := by decide +kernel
theorem dX11_allBits_24 : decode cX11_allBits 24 = .ok (.invokestatic 278, 3) := by decide +kernel
theorem dX11_allBits_27 : decode cX11_allBits 27 = .ok (.iadd, 1) := by decide +kernel
theorem dX11_allBits_28 : decode cX11_allBits 28 = .ok (.istore_n 1, 1) := by decide +kernel
theorem dX11_allBits_29 : decode cX11_allBits 29 = .ok (.iinc 2 1, 3) := by decide +kernel
theorem dX11_allBits_32 : decode cX11_allBits 32 = .ok (.goto (-28), 3) := by decide +kernel
theorem dX11_allBits_35 : decode cX11_allBits 35 = .ok (.iload_n 1, 1) := by decide +kernel
theorem dX11_allBits_36 : decode cX11_allBits 36 = .ok (.ireturn, 1) := by decide +kernel
theorem dX11_tooMany_0 : decode cX11_tooMany 0 = .ok (.iconst 0, 1) := by decide +kernel
theorem dX11_tooMany_1 : decode cX11_tooMany 1 = .ok (.istore_n 1, 1) := by decide +kernel
theorem dX11_tooMany_2 : decode cX11_tooMany 2 = .ok (.iconst 0, 1) := by decide +kernel
theorem dX11_tooMany_3 : decode cX11_tooMany 3 = .ok (.istore_n 2, 1) := by decide +kernel
theorem dX11_tooMany_4 : decode cX11_tooMany 4 = .ok (.iload_n 2, 1) := by decide +kernel
theorem dX11_tooMany_5 : decode cX11_tooMany 5 = .ok (.aload_n 0, 1) := by decide +kernel
theorem dX11_tooMany_6 : decode cX11_tooMany 6 = .ok (.getfield 219, 3) := by decide +kernel
theorem dX11_tooMany_9 : decode cX11_tooMany 9 = .ok (.if_icmp .ge 33, 3) := by decide +kernel
theorem dX11_tooMany_12 : decode cX11_tooMany 12 = .ok (.aload_n 0, 1) := by decide +kernel
theorem dX11_tooMany_13 : decode cX11_tooMany 13 = .ok (.getfield 13, 3) := by decide +kernel
theorem dX11_tooMany_16 : decode cX11_tooMany 16 = .ok (.iload_n 2, 1) := by decide +kernel
theorem dX11_tooMany_17 : decode cX11_tooMany 17 = .ok (.iaload, 1) := by decide +kernel
theorem dX11_tooMany_18 : decode cX11_tooMany 18 = .ok (.bipush 19, 2) := by decide +kernel
theorem dX11_tooMany_20 : decode cX11_tooMany 20 = .ok (.bipush 21, 2) := by decide +kernel
theorem dX11_tooMany_22 : decode cX11_tooMany 22 = .ok (.invokestatic 84, 3) := by decide +kernel
theorem dX11_tooMany_25 : decode cX11_tooMany 25 = .ok (.ifCond .eq 9, 3) := by decide +kernel
theorem dX11_tooMany_28 : decode cX11_tooMany 28 = .ok (.iload_n 1, 1) := by decide +kernel
theorem dX11_tooMany_29 : decode cX11_tooMany 29 = .ok (.iconst 1, 1) := by decide +kernel
theorem dX11_tooMany_30 : decode cX11_tooMany 30 = .ok (.iadd, 1) := by decide +kernel
theorem dX11_tooMany_31 : decode cX11_tooMany 31 = .ok (.goto 4, 3) := by decide +kernel
theorem dX11_tooMany_34 : decode cX11_tooMany 34 = .ok (.iload_n 1, 1) := by decide +kernel
theorem dX11_tooMany_35 : decode cX11_tooMany 35 = .ok (.istore_n 1, 1) := by decide +kernel
theorem dX11_tooMany_36 : decode cX11_tooMany 36 = .ok (.iinc 2 1, 3) := by decide +kernel
theorem dX11_tooMany_39 : decode cX11_tooMany 39 = .ok (.goto (-35), 3) := by decide +kernel
theorem dX11_tooMany_42 : decode cX11_tooMany 42 = .ok (.aload_n 0, 1) := by decide +kernel
theorem dX11_tooMany_43 : decode cX11_tooMany 43 = .ok (.getfield 219, 3) := by decide +kernel
theorem dX11_tooMany_46 : decode cX11_tooMany 46 = .ok (.bipush 60, 2) := by decide +kernel
theorem dX11_tooMany_48 : decode cX11_tooMany 48 = .ok (.if_icmp .gt 8, 3) := by decide +kernel
theorem dX11_tooMany_51 : decode cX11_tooMany 51 = .ok (.iload_n 1, 1) := by decide +kernel
theorem dX11_tooMany_52 : decode cX11_tooMany 52 = .ok (.iconst 2, 1) := by decide +kernel
theorem dX11_tooMany_53 : decode cX11_tooMany 53 = .ok (.if_icmp .le 7, 3) := by decide +kernel
theorem dX11_tooMany_56 : decode cX11_tooMany 56 = .ok (.iconst 1, 1) := by decide +kernel
theorem dX11_tooMany_57 : decode cX11_tooMany 57 = .ok (.goto 4, 3) := by decide +kernel
theorem dX11_tooMany_60 : decode cX11_tooMany 60 = .ok (.iconst 0, 1) := by decide +kernel
theorem dX11_tooMany_61 : decode cX11_tooMany 61 = .ok (.ireturn, 1) := by decide +kernel
theorem dX11_ends_0 : decode cX11_ends 0 = .ok (.aload_n 0, 1) := by decide +kernel
theorem dX11_ends_1 : decode cX11_ends 1 = .ok (.aload_n 0, 1) := by decide +kernel
theorem dX11_ends_2 : decode cX11_ends 2 = .ok (.getfield 115, 3) := by decide +kernel
theorem dX11_ends_5 : decode cX11_ends 5 = .ok (.iconst 2, 1) := by decide +kernel
theorem dX11_ends_6 : decode cX11_ends 6 = .ok (.if_icmp .ne 7, 3) := by decide +kernel
theorem dX11_ends_9 : decode cX11_ends 9 = .ok (.iconst 1, 1) := by decide +kernel
theorem dX11_ends_10 : decode cX11_ends 10 = .ok (.goto 4, 3) := by decide +kernel
theorem dX11_ends_13 : decode cX11_ends 13 = .ok (.iconst 0, 1) := by decide +kernel
theorem dX11_ends_14 : decode cX11_ends 14 = .ok (.invokevirtual 127, 3) := by decide +kernel
theorem dX11_ends_17 : decode cX11_ends 17 = .ok (.ifCond .ne 5, 3) := by decide +kernel
theorem dX11_ends_20 : decode cX11_ends 20 = .ok (.iconst 0, 1) := by decide +kernel
theorem dX11_ends_21 : decode cX11_ends 21 = .ok (.ireturn, 1) := by decide +kernel
theorem dX11_ends_22 : decode cX11_ends 22 = .ok (.aload_n 0, 1) := by decide +kernel
theorem dX11_ends_23 : decode cX11_ends 23 = .ok (.getfield 115, 3) := by decide +kernel
theorem dX11_ends_26 : decode cX11_ends 26 = .ok (.ifCond .eq 12, 3) := by decide +kernel
theorem dX11_ends_29 : decode cX11_ends 29 = .ok (.aload_n 0, 1) := by decide +kernel
theorem dX11_ends_30 : decode cX11_ends 30 = .ok (.aload_n 0, 1) := by decide +kernel
theorem dX11_ends_31 : decode cX11_ends 31 = .ok (.getfield 102, 3) := by decide +kernel
theorem dX11_ends_34 : decode cX11_ends 34 = .ok (.invokevirtual 121, 3) := by decide +kernel
theorem dX11_ends_37 : decode cX11_ends 37 = .ok (.ireturn, 1) := by decide +kernel
theorem dX11_ends_38 : decode cX11_ends 38 = .ok (.iconst 1, 1) := by decide +kernel
theorem dX11_ends_39 : decode cX11_ends 39 = .ok (.ireturn, 1) := by decide +kernel
theorem dX11_declare_0 : decode cX11_declare 0 = .ok (.aload_n 0, 1) := by decide +kernel
theorem dX11_declare_1 : decode cX11_declare 1 = .ok (.getfield 105, 3) := by decide +kernel
theorem dX11_declare_4 : decode cX11_declare 4 = .ok (.lstore_n 1, 1) := by decide +kernel
theorem dX11_declare_5 : decode cX11_declare 5 = .ok (.aload_n 0, 1) := by decide +kernel
theorem dX11_declare_6 : decode cX11_declare 6 = .ok (.aload_n 0, 1) := by decide +kernel
theorem dX11_declare_7 : decode cX11_declare 7 = .ok (.invokevirtual 237, 3) := by decide +kernel
theorem dX11_declare_10 : decode cX11_declare 10 = .ok (.ifCond .eq 14, 3) := by decide +kernel
theorem dX11_declare_13 : decode cX11_declare 13 = .ok (.aload_n 0, 1) := by decide +kernel
theorem dX11_declare_14 : decode cX11_declare 14 = .ok (.invokevirtual 281, 3) := by decide +kernel
theorem dX11_declare_17 : decode cX11_declare 17 = .ok (.ifCond .ne 7, 3) := by decide +kernel
theorem dX11_declare_20 : decode cX11_declare 20 = .ok (.iconst 1, 1) := by decide +kernel
theorem dX11_declare_21 : decode cX11_declare 21 = .ok (.goto 4, 3) := by decide +kernel
theorem dX11_declare_24 : decode cX11_declare 24 = .ok (.iconst 0, 1) := by decide +kernel
theorem dX11_declare_25 : decode cX11_declare 25 = .ok (.invokevirtual 127, 3) := by decide +kernel
theorem dX11_declare_28 : decode cX11_declare 28 = .ok (.ifCond .ne 5, 3) := by decide +kernel
theorem dX11_declare_31 : decode cX11_declare 31 = .ok (.iconst (-1), 1) := by decide +kernel
theorem dX11_declare_32 : decode cX11_declare 32 = .ok (.ireturn, 1) := by decide +kernel
theorem dX11_declare_33 : decode cX11_declare 33 = .ok (.aload_n 0, 1) := by decide +kernel
theorem dX11_declare_34 : decode cX11_declare 34 = .ok (.invokevirtual 284, 3) := by decide +kernel
theorem dX11_declare_37 : decode cX11_declare 37 = .ok (.istore_n 3, 1) := by decide +kernel
theorem dX11_declare_38 : decode cX11_declare 38 = .ok (.iload_n 3, 1) := by decide +kernel
theorem dX11_declare_39 : decode cX11_declare 39 = .ok (.ifCond .lt 10, 3) := by decide +kernel
theorem dX11_declare_42 : decode cX11_declare 42 = .ok (.aload_n 0, 1) := by decide +kernel
theorem dX11_declare_43 : decode cX11_declare 43 = .ok (.invokevirtual 287, 3) := by decide +kernel
theorem dX11_declare_46 : decode cX11_declare 46 = .ok (.ifCond .ne 5, 3) := by decide +kernel
theorem dX11_declare_49 : decode cX11_declare 49 = .ok (.iconst (-1), 1) := by decide +kernel
theorem dX11_declare_50 : decode cX11_declare 50 = .ok (.ireturn, 1) := by decide +kernel
theorem dX11_declare_51 : decode cX11_declare 51 = .ok (.aload_n 0, 1) := by decide +kernel
theorem dX11_declare_52 : decode cX11_declare 52 = .ok (.invokevirtual 290, 3) := by decide +kernel
theorem dX11_declare_55 : decode cX11_declare 55 = .ok (.iload_n 3, 1) := by decide +kernel
theorem dX11_declare_56 : decode cX11_declare 56 = .ok (.invokestatic 278, 3) := by decide +kernel
theorem dX11_declare_59 : decode cX11_declare 59 = .ok (.iadd, 1) := by decide +kernel
theorem dX11_declare_60 : decode cX11_declare 60 = .ok (.bipush 8, 2) := by decide +kernel
theorem dX11_declare_62 : decode cX11_declare 62 = .ok (.if_icmp .le 7, 3) := by decide +kernel
theorem dX11_declare_65 : decode cX11_declare 65 = .ok (.sipush (-1000), 3) := by decide +kernel
theorem dX11_declare_68 : decode cX11_declare 68 = .ok (.ireturn, 1) := by decide +kernel
theorem dX11_declare_69 : decode cX11_declare 69 = .ok (.aload_n 0, 1) := by decide +kernel
theorem dX11_declare_70 : decode cX11_declare 70 = .ok (.iconst 0, 1) := by decide +kernel
theorem dX11_declare_71 : decode cX11_declare 71 = .ok (.iload_n 3, 1) := by decide +kernel
theorem dX11_declare_72 : decode cX11_declare 72 = .ok (.iconst (-1), 1) := by decide +kernel
theorem dX11_declare_73 : decode cX11_declare 73 = .ok (.iconst (-1), 1) := by decide +kernel
theorem dX11_declare_74 : decode cX11_declare 74 = .ok (.iconst (-1), 1) := by decide +kernel
theorem dX11_declare_75 : decode cX11_declare 75 = .ok (.aload_n 0, 1) := by decide +kernel
theorem dX11_declare_76 : decode cX11_declare 76 = .ok (.getfield 293, 3) := by decide +kernel
theorem dX11_declare_79 : decode cX11_declare 79 = .ok (.iconst 0, 1) := by decide +kernel
theorem dX11_declare_80 : decode cX11_declare 80 = .ok (.invokevirtual 222, 3) := by decide +kernel
theorem dX11_declare_83 : decode cX11_declare 83 = .ok (.istore 4, 2) := by decide +kernel
theorem dX11_declare_85 : decode cX11_declare 85 = .ok (.aload_n 0, 1) := by decide +kernel
theorem dX11_declare_86 : decode cX11_declare 86 = .ok (.invokevirtual 296, 3) := by decide +kernel
theorem dX11_declare_89 : decode cX11_declare 89 = .ok (.ifCond .eq 7, 3) := by decide +kernel
theorem dX11_declare_92 : decode cX11_declare 92 = .ok (.sipush (-1001), 3) := by decide +kernel
theorem dX11_declare_95 : decode cX11_declare 95 = .ok (.ireturn, 1) := by decide +kernel
theorem dX11_declare_96 : decode cX11_declare 96 = .ok (.aload_n 0, 1) := by decide +kernel
theorem dX11_declare_97 : decode cX11_declare 97 = .ok (.aload_n 0, 1) := by decide +kernel
theorem dX11_declare_98 : decode cX11_declare 98 = .ok (.getfield 293, 3) := by decide +kernel
theorem dX11_declare_101 : decode cX11_declare 101 = .ok (.iconst 1, 1) := by decide +kernel
theorem dX11_declare_102 : decode cX11_declare 102 = .ok (.iadd, 1) := by decide +kernel
theorem dX11_declare_103 : decode cX11_declare 103 = .ok (.putfield 293, 3) := by decide +kernel
theorem dX11_declare_106 : decode cX11_declare 106 = .ok (.aload_n 0, 1) := by decide +kernel
theorem dX11_declare_107 : decode cX11_declare 107 = .ok (.getfield 56, 3) := by decide +kernel
theorem dX11_declare_110 : decode cX11_declare 110 = .ok (.aload_n 0, 1) := by decide +kernel
theorem dX11_declare_111 : decode cX11_declare 111 = .ok (.getfield 228, 3) := by decide +kernel
theorem dX11_declare_114 : decode cX11_declare 114 = .ok (.lload_n 1, 1) := by decide +kernel
theorem dX11_declare_115 : decode cX11_declare 115 = .ok (.lastore, 1) := by decide +kernel
theorem dX11_declare_116 : decode cX11_declare 116 = .ok (.aload_n 0, 1) := by decide +kernel
theorem dX11_declare_117 : decode cX11_declare 117 = .ok (.getfield 59, 3) := by decide +kernel
theorem dX11_declare_120 : decode cX11_declare 120 = .ok (.aload_n 0, 1) := by decide +kernel
theorem dX11_declare_121 : decode cX11_declare 121 = .ok (.getfield 228, 3) := by decide +kernel
theorem dX11_declare_124 : decode cX11_declare 124 = .ok (.iload 4, 2) := by decide +kernel
theorem dX11_declare_126 : decode cX11_declare 126 = .ok (.iastore, 1) := by decide +kernel
theorem dX11_declare_127 : decode cX11_declare 127 = .ok (.aload_n 0, 1) := by decide +kernel
theorem dX11_declare_128 : decode cX11_declare 128 = .ok (.aload_n 0, 1) := by decide +kernel
theorem dX11_declare_129 : decode cX11_declare 129 = .ok (.getfield 228, 3) := by decide +kernel
theorem dX11_declare_132 : decode cX11_declare 132 = .ok (.iconst 1, 1) := by decide +kernel
theorem dX11_declare_133 : decode cX11_declare 133 = .ok (.iadd, 1) := by decide +kernel
theorem dX11_declare_134 : decode cX11_declare 134 = .ok (.putfield 228, 3) := by decide +kernel
theorem dX11_declare_137 : decode cX11_declare 137 = .ok (.aload_n 0, 1) := by decide +kernel
theorem dX11_declare_138 : decode cX11_declare 138 = .ok (.getfield 228, 3) := by decide +kernel
theorem dX11_declare_141 : decode cX11_declare 141 = .ok (.ireturn, 1) := by decide +kernel
theorem dX11_claim_0 : decode cX11_claim 0 = .ok (.aload_n 0, 1) := by decide +kernel
theorem dX11_claim_1 : decode cX11_claim 1 = .ok (.invokevirtual 299, 3) := by decide +kernel
theorem dX11_claim_4 : decode cX11_claim 4 = .ok (.ifCond .ne 5, 3) := by decide +kernel
theorem dX11_claim_7 : decode cX11_claim 7 = .ok (.iconst (-1), 1) := by decide +kernel
theorem dX11_claim_8 : decode cX11_claim 8 = .ok (.ireturn, 1) := by decide +kernel
theorem dX11_claim_9 : decode cX11_claim 9 = .ok (.aload_n 0, 1) := by decide +kernel
theorem dX11_claim_10 : decode cX11_claim 10 = .ok (.getfield 16, 3) := by decide +kernel
theorem dX11_claim_13 : decode cX11_claim 13 = .ok (.aload_n 0, 1) := by decide +kernel
theorem dX11_claim_14 : decode cX11_claim 14 = .ok (.getfield 262, 3) := by decide +kernel
theorem dX11_claim_17 : decode cX11_claim 17 = .ok (.iaload, 1) := by decide +kernel
theorem dX11_claim_18 : decode cX11_claim 18 = .ok (.ifCond .eq 13, 3) := by decide +kernel
theorem dX11_claim_21 : decode cX11_claim 21 = .ok (.aload_n 0, 1) := by decide +kernel
theorem dX11_claim_22 : decode cX11_claim 22 = .ok (.aload_n 0, 1) := by decide +kernel
theorem dX11_claim_23 : decode cX11_claim 23 = .ok (.getfield 265, 3) := by decide +kernel
theorem dX11_claim_26 : decode cX11_claim 26 = .ok (.putfield 118, 3) := by decide +kernel
theorem dX11_claim_29 : decode cX11_claim 29 = .ok (.iconst (-1), 1) := by decide +kernel
theorem dX11_claim_30 : decode cX11_claim 30 = .ok (.ireturn, 1) := by decide +kernel
theorem dX11_claim_31 : decode cX11_claim 31 = .ok (.aload_n 0, 1) := by decide +kernel
theorem dX11_claim_32 : decode cX11_claim 32 = .ok (.invokevirtual 287, 3) := by decide +kernel
theorem dX11_claim_35 : decode cX11_claim 35 = .ok (.ifCond .ne 5, 3) := by decide +kernel
theorem dX11_claim_38 : decode cX11_claim 38 = .ok (.iconst (-1), 1) := by decide +kernel
theorem dX11_claim_39 : decode cX11_claim 39 = .ok (.ireturn, 1) := by decide +kernel
theorem dX11_claim_40 : decode cX11_claim 40 = .ok (.aload_n 0, 1) := by decide +kernel
theorem dX11_claim_41 : decode cX11_claim 41 = .ok (.getfield 302, 3) := by decide +kernel
theorem dX11_claim_44 : decode cX11_claim 44 = .ok (.bipush 12, 2) := by decide +kernel
theorem dX11_claim_46 : decode cX11_claim 46 = .ok (.if_icmp .lt 7, 3) := by decide +kernel
theorem dX11_claim_49 : decode cX11_claim 49 = .ok (.sipush (-1000), 3) := by decide +kernel
theorem dX11_claim_52 : decode cX11_claim 52 = .ok (.ireturn, 1) := by decide +kernel
theorem dX11_claim_53 : decode cX11_claim 53 = .ok (.aload_n 0, 1) := by decide +kernel
theorem dX11_claim_54 : decode cX11_claim 54 = .ok (.invokevirtual 296, 3) := by decide +kernel
theorem dX11_claim_57 : decode cX11_claim 57 = .ok (.ifCond .eq 7, 3) := by decide +kernel
theorem dX11_claim_60 : decode cX11_claim 60 = .ok (.sipush (-1001), 3) := by decide +kernel
theorem dX11_claim_63 : decode cX11_claim 63 = .ok (.ireturn, 1) := by decide +kernel
theorem dX11_claim_64 : decode cX11_claim 64 = .ok (.aload_n 0, 1) := by decide +kernel
theorem dX11_claim_65 : decode cX11_claim 65 = .ok (.getfield 62, 3) := by decide +kernel
theorem dX11_claim_68 : decode cX11_claim 68 = .ok (.aload_n 0, 1) := by decide +kernel
theorem dX11_claim_69 : decode cX11_claim 69 = .ok (.getfield 302, 3) := by decide +kernel
theorem dX11_claim_72 : decode cX11_claim 72 = .ok (.aload_n 0, 1) := by decide +kernel
theorem dX11_claim_73 : decode cX11_claim 73 = .ok (.getfield 262, 3) := by decide +kernel
theorem dX11_claim_76 : decode cX11_claim 76 = .ok (.iastore, 1) := by decide +kernel
theorem dX11_claim_77 : decode cX11_claim 77 = .ok (.aload_n 0, 1) := by decide +kernel
theorem dX11_claim_78 : decode cX11_claim 78 = .ok (.aload_n 0, 1) := by decide +kernel
theorem dX11_claim_79 : decode cX11_claim 79 = .ok (.getfield 302, 3) := by decide +kernel
theorem dX11_claim_82 : decode cX11_claim 82 = .ok (.iconst 1, 1) := by decide +kernel
theorem dX11_claim_83 : decode cX11_claim 83 = .ok (.iadd, 1) := by decide +kernel
theorem dX11_claim_84 : decode cX11_claim 84 = .ok (.putfield 302, 3) := by decide +kernel
theorem dX11_claim_87 : decode cX11_claim 87 = .ok (.aload_n 0, 1) := by decide +kernel
theorem dX11_claim_88 : decode cX11_claim 88 = .ok (.getfield 302, 3) := by decide +kernel
theorem dX11_claim_91 : decode cX11_claim 91 = .ok (.ireturn, 1) := by decide +kernel
theorem dX11_open_0 : decode cX11_open 0 = .ok (.aload_n 0, 1) := by decide +kernel
theorem dX11_open_1 : decode cX11_open 1 = .ok (.invokevirtual 287, 3) := by decide +kernel
theorem dX11_open_4 : decode cX11_open 4 = .ok (.ifCond .ne 5, 3) := by decide +kernel
theorem dX11_open_7 : decode cX11_open 7 = .ok (.iconst (-1), 1) := by decide +kernel
theorem dX11_open_8 : decode cX11_open 8 = .ok (.ireturn, 1) := by decide +kernel
theorem dX11_open_9 : decode cX11_open 9 = .ok (.aload_n 0, 1) := by decide +kernel
theorem dX11_open_10 : decode cX11_open 10 = .ok (.getfield 305, 3) := by decide +kernel
theorem dX11_open_13 : decode cX11_open 13 = .ok (.iconst 4, 1) := by decide +kernel
theorem dX11_open_14 : decode cX11_open 14 = .ok (.if_icmp .lt 7, 3) := by decide +kernel
theorem dX11_open_17 : decode cX11_open 17 = .ok (.sipush (-1000), 3) := by decide +kernel
theorem dX11_open_20 : decode cX11_open 20 = .ok (.ireturn, 1) := by decide +kernel
theorem dX11_open_21 : decode cX11_open 21 = .ok (.aload_n 0, 1) := by decide +kernel
theorem dX11_open_22 : decode cX11_open 22 = .ok (.getfield 65, 3) := by decide +kernel
theorem dX11_open_25 : decode cX11_open 25 = .ok (.aload_n 0, 1) := by decide +kernel
theorem dX11_open_26 : decode cX11_open 26 = .ok (.getfield 305, 3) := by decide +kernel
theorem dX11_open_29 : decode cX11_open 29 = .ok (.aload_n 0, 1) := by decide +kernel
theorem dX11_open_30 : decode cX11_open 30 = .ok (.getfield 228, 3) := by decide +kernel
theorem dX11_open_33 : decode cX11_open 33 = .ok (.iastore, 1) := by decide +kernel
theorem dX11_open_34 : decode cX11_open 34 = .ok (.aload_n 0, 1) := by decide +kernel
theorem dX11_open_35 : decode cX11_open 35 = .ok (.getfield 68, 3) := by decide +kernel
theorem dX11_open_38 : decode cX11_open 38 = .ok (.aload_n 0, 1) := by decide +kernel
theorem dX11_open_39 : decode cX11_open 39 = .ok (.getfield 305, 3) := by decide +kernel
theorem dX11_open_42 : decode cX11_open 42 = .ok (.aload_n 0, 1) := by decide +kernel
theorem dX11_open_43 : decode cX11_open 43 = .ok (.getfield 302, 3) := by decide +kernel
theorem dX11_open_46 : decode cX11_open 46 = .ok (.iastore, 1) := by decide +kernel
theorem dX11_open_47 : decode cX11_open 47 = .ok (.aload_n 0, 1) := by decide +kernel
theorem dX11_open_48 : decode cX11_open 48 = .ok (.aload_n 0, 1) := by decide +kernel
theorem dX11_open_49 : decode cX11_open 49 = .ok (.getfield 305, 3) := by decide +kernel
theorem dX11_open_52 : decode cX11_open 52 = .ok (.iconst 1, 1) := by decide +kernel
theorem dX11_open_53 : decode cX11_open 53 = .ok (.iadd, 1) := by decide +kernel
theorem dX11_open_54 : decode cX11_open 54 = .ok (.putfield 305, 3) := by decide +kernel
theorem dX11_open_57 : decode cX11_open 57 = .ok (.aload_n 0, 1) := by decide +kernel
theorem dX11_open_58 : decode cX11_open 58 = .ok (.getfield 305, 3) := by decide +kernel
theorem dX11_open_61 : decode cX11_open 61 = .ok (.ireturn, 1) := by decide +kernel
theorem dX11_shut_0 : decode cX11_shut 0 = .ok (.aload_n 0, 1) := by decide +kernel
theorem dX11_shut_1 : decode cX11_shut 1 = .ok (.invokevirtual 287, 3) := by decide +kernel
theorem dX11_shut_4 : decode cX11_shut 4 = .ok (.ifCond .ne 5, 3) := by decide +kernel
theorem dX11_shut_7 : decode cX11_shut 7 = .ok (.iconst (-1), 1) := by decide +kernel
theorem dX11_shut_8 : decode cX11_shut 8 = .ok (.ireturn, 1) := by decide +kernel
theorem dX11_shut_9 : decode cX11_shut 9 = .ok (.aload_n 0, 1) := by decide +kernel
theorem dX11_shut_10 : decode cX11_shut 10 = .ok (.getfield 305, 3) := by decide +kernel
theorem dX11_shut_13 : decode cX11_shut 13 = .ok (.ifCond .ne 7, 3) := by decide +kernel
theorem dX11_shut_16 : decode cX11_shut 16 = .ok (.sipush (-1000), 3) := by decide +kernel
theorem dX11_shut_19 : decode cX11_shut 19 = .ok (.ireturn, 1) := by decide +kernel
theorem dX11_shut_20 : decode cX11_shut 20 = .ok (.aload_n 0, 1) := by decide +kernel
theorem dX11_shut_21 : decode cX11_shut 21 = .ok (.aload_n 0, 1) := by decide +kernel
theorem dX11_shut_22 : decode cX11_shut 22 = .ok (.getfield 305, 3) := by decide +kernel
theorem dX11_shut_25 : decode cX11_shut 25 = .ok (.iconst 1, 1) := by decide +kernel
theorem dX11_shut_26 : decode cX11_shut 26 = .ok (.isub, 1) := by decide +kernel
theorem dX11_shut_27 : decode cX11_shut 27 = .ok (.putfield 305, 3) := by decide +kernel
theorem dX11_shut_30 : decode cX11_shut 30 = .ok (.aload_n 0, 1) := by decide +kernel
theorem dX11_shut_31 : decode cX11_shut 31 = .ok (.aload_n 0, 1) := by decide +kernel
theorem dX11_shut_32 : decode cX11_shut 32 = .ok (.getfield 65, 3) := by decide +kernel
theorem dX11_shut_35 : decode cX11_shut 35 = .ok (.aload_n 0, 1) := by decide +kernel
theorem dX11_shut_36 : decode cX11_shut 36 = .ok (.getfield 305, 3) := by decide +kernel
theorem dX11_shut_39 : decode cX11_shut 39 = .ok (.iaload, 1) := by decide +kernel
theorem dX11_shut_40 : decode cX11_shut 40 = .ok (.putfield 228, 3) := by decide +kernel
theorem dX11_shut_43 : decode cX11_shut 43 = .ok (.aload_n 0, 1) := by decide +kernel
theorem dX11_shut_44 : decode cX11_shut 44 = .ok (.aload_n 0, 1) := by decide +kernel
theorem dX11_shut_45 : decode cX11_shut 45 = .ok (.getfield 68, 3) := by decide +kernel
theorem dX11_shut_48 : decode cX11_shut 48 = .ok (.aload_n 0, 1) := by decide +kernel
theorem dX11_shut_49 : decode cX11_shut 49 = .ok (.getfield 305, 3) := by decide +kernel
theorem dX11_shut_52 : decode cX11_shut 52 = .ok (.iaload, 1) := by decide +kernel
theorem dX11_shut_53 : decode cX11_shut 53 = .ok (.putfield 302, 3) := by decide +kernel
theorem dX11_shut_56 : decode cX11_shut 56 = .ok (.aload_n 0, 1) := by decide +kernel
theorem dX11_shut_57 : decode cX11_shut 57 = .ok (.getfield 305, 3) := by decide +kernel
theorem dX11_shut_60 : decode cX11_shut 60 = .ok (.ireturn, 1) := by decide +kernel
theorem dX11_perform_0 : decode cX11_perform 0 = .ok (.aload_n 0, 1) := by decide +kernel
theorem dX11_perform_1 : decode cX11_perform 1 = .ok (.invokevirtual 124, 3) := by decide +kernel
theorem dX11_perform_4 : decode cX11_perform 4 = .ok (.aload_n 0, 1) := by decide +kernel
theorem dX11_perform_5 : decode cX11_perform 5 = .ok (.aload_n 0, 1) := by decide +kernel
theorem dX11_perform_6 : decode cX11_perform 6 = .ok (.getfield 115, 3) := by decide +kernel
theorem dX11_perform_9 : decode cX11_perform 9 = .ok (.iconst 1, 1) := by decide +kernel
theorem dX11_perform_10 : decode cX11_perform 10 = .ok (.if_icmp .ne 7, 3) := by decide +kernel
theorem dX11_perform_13 : decode cX11_perform 13 = .ok (.iconst 1, 1) := by decide +kernel
theorem dX11_perform_14 : decode cX11_perform 14 = .ok (.goto 4, 3) := by decide +kernel
theorem dX11_perform_17 : decode cX11_perform 17 = .ok (.iconst 0, 1) := by decide +kernel
theorem dX11_perform_18 : decode cX11_perform 18 = .ok (.invokevirtual 127, 3) := by decide +kernel
theorem dX11_perform_21 : decode cX11_perform 21 = .ok (.ifCond .ne 5, 3) := by decide +kernel
theorem dX11_perform_24 : decode cX11_perform 24 = .ok (.iconst (-1), 1) := by decide +kernel
theorem dX11_perform_25 : decode cX11_perform 25 = .ok (.ireturn, 1) := by decide +kernel
theorem dX11_perform_26 : decode cX11_perform 26 = .ok (.aload_n 0, 1) := by decide +kernel
theorem dX11_perform_27 : decode cX11_perform 27 = .ok (.getfield 115, 3) := by decide +kernel
theorem dX11_perform_30 : decode cX11_perform 30 = .ok (.iconst 3, 1) := by decide +kernel
theorem dX11_perform_31 : decode cX11_perform 31 = .ok (.if_icmp .ne 7, 3) := by decide +kernel
theorem dX11_perform_34 : decode cX11_perform 34 = .ok (.iconst 1, 1) := by decide +kernel
theorem dX11_perform_35 : decode cX11_perform 35 = .ok (.goto 4, 3) := by decide +kernel
theorem dX11_perform_38 : decode cX11_perform 38 = .ok (.iconst 0, 1) := by decide +kernel
theorem dX11_perform_39 : decode cX11_perform 39 = .ok (.istore_n 1, 1) := by decide +kernel
theorem dX11_perform_40 : decode cX11_perform 40 = .ok (.iload_n 1, 1) := by decide +kernel
theorem dX11_perform_41 : decode cX11_perform 41 = .ok (.ifCond .eq 29, 3) := by decide +kernel
theorem dX11_perform_44 : decode cX11_perform 44 = .ok (.aload_n 0, 1) := by decide +kernel
theorem dX11_perform_45 : decode cX11_perform 45 = .ok (.getfield 105, 3) := by decide +kernel
theorem dX11_perform_48 : decode cX11_perform 48 = .ok (.ldc2_w 308, 3) := by decide +kernel
theorem dX11_perform_51 : decode cX11_perform 51 = .ok (.lcmp, 1) := by decide +kernel
theorem dX11_perform_52 : decode cX11_perform 52 = .ok (.ifCond .ne 18, 3) := by decide +kernel
theorem dX11_perform_55 : decode cX11_perform 55 = .ok (.aload_n 0, 1) := by decide +kernel
theorem dX11_perform_56 : decode cX11_perform 56 = .ok (.getfield 109, 3) := by decide +kernel
theorem dX11_perform_59 : decode cX11_perform 59 = .ok (.ldc2_w 310, 3) := by decide +kernel
theorem dX11_perform_62 : decode cX11_perform 62 = .ok (.lcmp, 1) := by decide +kernel
theorem dX11_perform_63 : decode cX11_perform 63 = .ok (.ifCond .ne 7, 3) := by decide +kernel
theorem dX11_perform_66 : decode cX11_perform 66 = .ok (.iconst 1, 1) := by decide +kernel
theorem dX11_perform_67 : decode cX11_perform 67 = .ok (.goto 88, 3) := by decide +kernel
theorem dX11_perform_70 : decode cX11_perform 70 = .ok (.iload_n 1, 1) := by decide +kernel
theorem dX11_perform_71 : decode cX11_perform 71 = .ok (.ifCond .eq 27, 3) := by decide +kernel
theorem dX11_perform_74 : decode cX11_perform 74 = .ok (.aload_n 0, 1) := by decide +kernel
theorem dX11_perform_75 : decode cX11_perform 75 = .ok (.getfield 105, 3) := by decide +kernel
theorem dX11_perform_78 : decode cX11_perform 78 = .ok (.ldc2_w 312, 3) := by decide +kernel
theorem dX11_perform_81 : decode cX11_perform 81 = .ok (.lcmp, 1) := by decide +kernel
theorem dX11_perform_82 : decode cX11_perform 82 = .ok (.ifCond .ne 16, 3) := by decide +kernel
theorem dX11_perform_85 : decode cX11_perform 85 = .ok (.aload_n 0, 1) := by decide +kernel
theorem dX11_perform_86 : decode cX11_perform 86 = .ok (.getfield 109, 3) := by decide +kernel
theorem dX11_perform_89 : decode cX11_perform 89 = .ok (.lconst 0, 1) := by decide +kernel
theorem dX11_perform_90 : decode cX11_perform 90 = .ok (.lcmp, 1) := by decide +kernel
theorem dX11_perform_91 : decode cX11_perform 91 = .ok (.ifCond .ne 7, 3) := by decide +kernel
theorem dX11_perform_94 : decode cX11_perform 94 = .ok (.iconst 2, 1) := by decide +kernel
theorem dX11_perform_95 : decode cX11_perform 95 = .ok (.goto 60, 3) := by decide +kernel
theorem dX11_perform_98 : decode cX11_perform 98 = .ok (.iload_n 1, 1) := by decide +kernel
theorem dX11_perform_99 : decode cX11_perform 99 = .ok (.ifCond .eq 27, 3) := by decide +kernel
theorem dX11_perform_102 : decode cX11_perform 102 = .ok (.aload_n 0, 1) := by decide +kernel
theorem dX11_perform_103 : decode cX11_perform 103 = .ok (.getfield 105, 3) := by decide +kernel
theorem dX11_perform_106 : decode cX11_perform 106 = .ok (.ldc2_w 195, 3) := by decide +kernel
theorem dX11_perform_109 : decode cX11_perform 109 = .ok (.lcmp, 1) := by decide +kernel
theorem dX11_perform_110 : decode cX11_perform 110 = .ok (.ifCond .ne 16, 3) := by decide +kernel
theorem dX11_perform_113 : decode cX11_perform 113 = .ok (.aload_n 0, 1) := by decide +kernel
theorem dX11_perform_114 : decode cX11_perform 114 = .ok (.getfield 109, 3) := by decide +kernel
theorem dX11_perform_117 : decode cX11_perform 117 = .ok (.lconst 0, 1) := by decide +kernel
theorem dX11_perform_118 : decode cX11_perform 118 = .ok (.lcmp, 1) := by decide +kernel
theorem dX11_perform_119 : decode cX11_perform 119 = .ok (.ifCond .ne 7, 3) := by decide +kernel
theorem dX11_perform_122 : decode cX11_perform 122 = .ok (.iconst 3, 1) := by decide +kernel
theorem dX11_perform_123 : decode cX11_perform 123 = .ok (.goto 32, 3) := by decide +kernel
theorem dX11_perform_126 : decode cX11_perform 126 = .ok (.iload_n 1, 1) := by decide +kernel
theorem dX11_perform_127 : decode cX11_perform 127 = .ok (.ifCond .eq 27, 3) := by decide +kernel
theorem dX11_perform_130 : decode cX11_perform 130 = .ok (.aload_n 0, 1) := by decide +kernel
theorem dX11_perform_131 : decode cX11_perform 131 = .ok (.getfield 105, 3) := by decide +kernel
theorem dX11_perform_134 : decode cX11_perform 134 = .ok (.ldc2_w 197, 3) := by decide +kernel
theorem dX11_perform_137 : decode cX11_perform 137 = .ok (.lcmp, 1) := by decide +kernel
theorem dX11_perform_138 : decode cX11_perform 138 = .ok (.ifCond .ne 16, 3) := by decide +kernel
theorem dX11_perform_141 : decode cX11_perform 141 = .ok (.aload_n 0, 1) := by decide +kernel
theorem dX11_perform_142 : decode cX11_perform 142 = .ok (.getfield 109, 3) := by decide +kernel
theorem dX11_perform_145 : decode cX11_perform 145 = .ok (.lconst 0, 1) := by decide +kernel
theorem dX11_perform_146 : decode cX11_perform 146 = .ok (.lcmp, 1) := by decide +kernel
theorem dX11_perform_147 : decode cX11_perform 147 = .ok (.ifCond .ne 7, 3) := by decide +kernel
theorem dX11_perform_150 : decode cX11_perform 150 = .ok (.iconst 4, 1) := by decide +kernel
theorem dX11_perform_151 : decode cX11_perform 151 = .ok (.goto 4, 3) := by decide +kernel
theorem dX11_perform_154 : decode cX11_perform 154 = .ok (.iconst 0, 1) := by decide +kernel
theorem dX11_perform_155 : decode cX11_perform 155 = .ok (.istore_n 2, 1) := by decide +kernel
theorem dX11_perform_156 : decode cX11_perform 156 = .ok (.aload_n 0, 1) := by decide +kernel
theorem dX11_perform_157 : decode cX11_perform 157 = .ok (.iload_n 2, 1) := by decide +kernel
theorem dX11_perform_158 : decode cX11_perform 158 = .ok (.ifCond .le 7, 3) := by decide +kernel
theorem dX11_perform_161 : decode cX11_perform 161 = .ok (.iconst 1, 1) := by decide +kernel
theorem dX11_perform_162 : decode cX11_perform 162 = .ok (.goto 4, 3) := by decide +kernel
theorem dX11_perform_165 : decode cX11_perform 165 = .ok (.iconst 0, 1) := by decide +kernel
theorem dX11_perform_166 : decode cX11_perform 166 = .ok (.invokevirtual 127, 3) := by decide +kernel
theorem dX11_perform_169 : decode cX11_perform 169 = .ok (.ifCond .ne 5, 3) := by decide +kernel
theorem dX11_perform_172 : decode cX11_perform 172 = .ok (.iconst (-1), 1) := by decide +kernel
theorem dX11_perform_173 : decode cX11_perform 173 = .ok (.ireturn, 1) := by decide +kernel
theorem dX11_perform_174 : decode cX11_perform 174 = .ok (.iload_n 2, 1) := by decide +kernel
theorem dX11_perform_175 : decode cX11_perform 175 = .ok (.iconst 1, 1) := by decide +kernel
theorem dX11_perform_176 : decode cX11_perform 176 = .ok (.if_icmp .ne 10, 3) := by decide +kernel
theorem dX11_perform_179 : decode cX11_perform 179 = .ok (.aload_n 0, 1) := by decide +kernel
theorem dX11_perform_180 : decode cX11_perform 180 = .ok (.invokevirtual 314, 3) := by decide +kernel
theorem dX11_perform_183 : decode cX11_perform 183 = .ok (.goto 31, 3) := by decide +kernel
theorem dX11_perform_186 : decode cX11_perform 186 = .ok (.iload_n 2, 1) := by decide +kernel
theorem dX11_perform_187 : decode cX11_perform 187 = .ok (.iconst 2, 1) := by decide +kernel
theorem dX11_perform_188 : decode cX11_perform 188 = .ok (.if_icmp .ne 10, 3) := by decide +kernel
theorem dX11_perform_191 : decode cX11_perform 191 = .ok (.aload_n 0, 1) := by decide +kernel
theorem dX11_perform_192 : decode cX11_perform 192 = .ok (.invokevirtual 317, 3) := by decide +kernel
theorem dX11_perform_195 : decode cX11_perform 195 = .ok (.goto 19, 3) := by decide +kernel
theorem dX11_perform_198 : decode cX11_perform 198 = .ok (.iload_n 2, 1) := by decide +kernel
theorem dX11_perform_199 : decode cX11_perform 199 = .ok (.iconst 3, 1) := by decide +kernel
theorem dX11_perform_200 : decode cX11_perform 200 = .ok (.if_icmp .ne 10, 3) := by decide +kernel
theorem dX11_perform_203 : decode cX11_perform 203 = .ok (.aload_n 0, 1) := by decide +kernel
theorem dX11_perform_204 : decode cX11_perform 204 = .ok (.invokevirtual 320, 3) := by decide +kernel
theorem dX11_perform_207 : decode cX11_perform 207 = .ok (.goto 7, 3) := by decide +kernel
theorem dX11_perform_210 : decode cX11_perform 210 = .ok (.aload_n 0, 1) := by decide +kernel
theorem dX11_perform_211 : decode cX11_perform 211 = .ok (.invokevirtual 323, 3) := by decide +kernel
theorem dX11_perform_214 : decode cX11_perform 214 = .ok (.ireturn, 1) := by decide +kernel
theorem dX11_command_0 : decode cX11_command 0 = .ok (.aload_n 0, 1) := by decide +kernel
theorem dX11_command_1 : decode cX11_command 1 = .ok (.iconst (-1), 1) := by decide +kernel
theorem dX11_command_2 : decode cX11_command 2 = .ok (.putfield 118, 3) := by decide +kernel
theorem dX11_command_5 : decode cX11_command 5 = .ok (.aload_n 0, 1) := by decide +kernel
theorem dX11_command_6 : decode cX11_command 6 = .ok (.iconst 0, 1) := by decide +kernel
theorem dX11_command_7 : decode cX11_command 7 = .ok (.putfield 99, 3) := by decide +kernel
theorem dX11_command_10 : decode cX11_command 10 = .ok (.aload_n 0, 1) := by decide +kernel
theorem dX11_command_11 : decode cX11_command 11 = .ok (.aload_n 0, 1) := by decide +kernel
theorem dX11_command_12 : decode cX11_command 12 = .ok (.getfield 326, 3) := by decide +kernel
theorem dX11_command_15 : decode cX11_command 15 = .ok (.putfield 219, 3) := by decide +kernel
theorem dX11_command_18 : decode cX11_command 18 = .ok (.aload_n 0, 1) := by decide +kernel
theorem dX11_command_19 : decode cX11_command 19 = .ok (.invokevirtual 329, 3) := by decide +kernel
theorem dX11_command_22 : decode cX11_command 22 = .ok (.istore_n 1, 1) := by decide +kernel
theorem dX11_command_23 : decode cX11_command 23 = .ok (.aload_n 0, 1) := by decide +kernel
theorem dX11_command_24 : decode cX11_command 24 = .ok (.iconst 0, 1) := by decide +kernel
theorem dX11_command_25 : decode cX11_command 25 = .ok (.putfield 88, 3) := by decide +kernel
theorem dX11_command_28 : decode cX11_command 28 = .ok (.aload_n 0, 1) := by decide +kernel
theorem dX11_command_29 : decode cX11_command 29 = .ok (.getfield 118, 3) := by decide +kernel
theorem dX11_command_32 : decode cX11_command 32 = .ok (.ifCond .lt 10, 3) := by decide +kernel
theorem dX11_command_35 : decode cX11_command 35 = .ok (.iconst (-1), 1) := by decide +kernel
theorem dX11_command_36 : decode cX11_command 36 = .ok (.aload_n 0, 1) := by decide +kernel
theorem dX11_command_37 : decode cX11_command 37 = .ok (.getfield 118, 3) := by decide +kernel
theorem dX11_command_40 : decode cX11_command 40 = .ok (.isub, 1) := by decide +kernel
theorem dX11_command_41 : decode cX11_command 41 = .ok (.ireturn, 1) := by decide +kernel
theorem dX11_command_42 : decode cX11_command 42 = .ok (.iload_n 1, 1) := by decide +kernel
theorem dX11_command_43 : decode cX11_command 43 = .ok (.ifCond .ge 5, 3) := by decide +kernel
theorem dX11_command_46 : decode cX11_command 46 = .ok (.iload_n 1, 1) := by decide +kernel
theorem dX11_command_47 : decode cX11_command 47 = .ok (.ireturn, 1) := by decide +kernel
theorem dX11_command_48 : decode cX11_command 48 = .ok (.aload_n 0, 1) := by decide +kernel
theorem dX11_command_49 : decode cX11_command 49 = .ok (.aload_n 0, 1) := by decide +kernel
theorem dX11_command_50 : decode cX11_command 50 = .ok (.getfield 219, 3) := by decide +kernel
theorem dX11_command_53 : decode cX11_command 53 = .ok (.putfield 326, 3) := by decide +kernel
theorem dX11_command_56 : decode cX11_command 56 = .ok (.aload_n 0, 1) := by decide +kernel
theorem dX11_command_57 : decode cX11_command 57 = .ok (.iconst 0, 1) := by decide +kernel
theorem dX11_command_58 : decode cX11_command 58 = .ok (.putfield 332, 3) := by decide +kernel
theorem dX11_command_61 : decode cX11_command 61 = .ok (.iload_n 1, 1) := by decide +kernel
theorem dX11_command_62 : decode cX11_command 62 = .ok (.ireturn, 1) := by decide +kernel
theorem dX11_sign_0 : decode cX11_sign 0 = .ok (.iload_n 0, 1) := by decide +kernel
theorem dX11_sign_1 : decode cX11_sign 1 = .ok (.iconst 1, 1) := by decide +kernel
theorem dX11_sign_2 : decode cX11_sign 2 = .ok (.iload_n 1, 1) := by decide +kernel
theorem dX11_sign_3 : decode cX11_sign 3 = .ok (.iconst 1, 1) := by decide +kernel
theorem dX11_sign_4 : decode cX11_sign 4 = .ok (.isub, 1) := by decide +kernel
theorem dX11_sign_5 : decode cX11_sign 5 = .ok (.ishl, 1) := by decide +kernel
theorem dX11_sign_6 : decode cX11_sign 6 = .ok (.if_icmp .lt 11, 3) := by decide +kernel
theorem dX11_sign_9 : decode cX11_sign 9 = .ok (.iload_n 0, 1) := by decide +kernel
theorem dX11_sign_10 : decode cX11_sign 10 = .ok (.iconst 1, 1) := by decide +kernel
theorem dX11_sign_11 : decode cX11_sign 11 = .ok (.iload_n 1, 1) := by decide +kernel
theorem dX11_sign_12 : decode cX11_sign 12 = .ok (.ishl, 1) := by decide +kernel
theorem dX11_sign_13 : decode cX11_sign 13 = .ok (.isub, 1) := by decide +kernel
theorem dX11_sign_14 : decode cX11_sign 14 = .ok (.goto 4, 3) := by decide +kernel
theorem dX11_sign_17 : decode cX11_sign 17 = .ok (.iload_n 0, 1) := by decide +kernel
theorem dX11_sign_18 : decode cX11_sign 18 = .ok (.ireturn, 1) := by decide +kernel
theorem dX11_onWords_0 : decode cX11_onWords 0 = .ok (.iconst 1, 1) := by decide +kernel
theorem dX11_onWords_1 : decode cX11_onWords 1 = .ok (.iload_n 3, 1) := by decide +kernel
theorem dX11_onWords_2 : decode cX11_onWords 2 = .ok (.ishl, 1) := by decide +kernel
theorem dX11_onWords_3 : decode cX11_onWords 3 = .ok (.iconst 1, 1) := by decide +kernel
theorem dX11_onWords_4 : decode cX11_onWords 4 = .ok (.isub, 1) := by decide +kernel
