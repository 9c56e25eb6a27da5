theorem dX1_init_0 : decode cX1_init 0 = .ok (.aload_n 0, 1) := by decide +kernel
theorem dX1_init_1 : decode cX1_init 1 = .ok (.invokespecial 3, 3) := by decide +kernel
theorem dX1_init_4 : decode cX1_init 4 = .ok (.aload_n 0, 1) := by decide +kernel
theorem dX1_init_5 : decode cX1_init 5 = .ok (.sipush 480, 3) := by decide +kernel
theorem dX1_init_8 : decode cX1_init 8 = .ok (.newarray .int, 2) := by decide +kernel
theorem dX1_init_10 : decode cX1_init 10 = .ok (.putfield 11, 3) := by decide +kernel
theorem dX1_init_13 : decode cX1_init 13 = .ok (.aload_n 0, 1) := by decide +kernel
theorem dX1_init_14 : decode cX1_init 14 = .ok (.iconst 4, 1) := by decide +kernel
theorem dX1_init_15 : decode cX1_init 15 = .ok (.newarray .int, 2) := by decide +kernel
theorem dX1_init_17 : decode cX1_init 17 = .ok (.putfield 15, 3) := by decide +kernel
theorem dX1_init_20 : decode cX1_init 20 = .ok (.aload_n 0, 1) := by decide +kernel
theorem dX1_init_21 : decode cX1_init 21 = .ok (.iconst 4, 1) := by decide +kernel
theorem dX1_init_22 : decode cX1_init 22 = .ok (.newarray .int, 2) := by decide +kernel
theorem dX1_init_24 : decode cX1_init 24 = .ok (.putfield 18, 3) := by decide +kernel
theorem dX1_init_27 : decode cX1_init 27 = .ok (.aload_n 0, 1) := by decide +kernel
theorem dX1_init_28 : decode cX1_init 28 = .ok (.iconst 4, 1) := by decide +kernel
theorem dX1_init_29 : decode cX1_init 29 = .ok (.newarray .int, 2) := by decide +kernel
theorem dX1_init_31 : decode cX1_init 31 = .ok (.putfield 21, 3) := by decide +kernel
theorem dX1_init_34 : decode cX1_init 34 = .ok (.aload_n 0, 1) := by decide +kernel
theorem dX1_init_35 : decode cX1_init 35 = .ok (.aload_n 1, 1) := by decide +kernel
theorem dX1_init_36 : decode cX1_init 36 = .ok (.putfield 24, 3) := by decide +kernel
theorem dX1_init_39 : decode cX1_init 39 = .ok (.aload_n 0, 1) := by decide +kernel
theorem dX1_init_40 : decode cX1_init 40 = .ok (.aload_n 2, 1) := by decide +kernel
theorem dX1_init_41 : decode cX1_init 41 = .ok (.putfield 28, 3) := by decide +kernel
theorem dX1_init_44 : decode cX1_init 44 = .ok (.return_, 1) := by decide +kernel
theorem dX1_bitOf_0 : decode cX1_bitOf 0 = .ok (.iload_n 1, 1) := by decide +kernel
theorem dX1_bitOf_1 : decode cX1_bitOf 1 = .ok (.ifCond .lt 35, 3) := by decide +kernel
theorem dX1_bitOf_4 : decode cX1_bitOf 4 = .ok (.iload_n 1, 1) := by decide +kernel
theorem dX1_bitOf_5 : decode cX1_bitOf 5 = .ok (.aload_n 0, 1) := by decide +kernel
theorem dX1_bitOf_6 : decode cX1_bitOf 6 = .ok (.getfield 32, 3) := by decide +kernel
theorem dX1_bitOf_9 : decode cX1_bitOf 9 = .ok (.if_icmp .ge 27, 3) := by decide +kernel
theorem dX1_bitOf_12 : decode cX1_bitOf 12 = .ok (.iload_n 2, 1) := by decide +kernel
theorem dX1_bitOf_13 : decode cX1_bitOf 13 = .ok (.ifCond .lt 23, 3) := by decide +kernel
theorem dX1_bitOf_16 : decode cX1_bitOf 16 = .ok (.iload_n 2, 1) := by decide +kernel
theorem dX1_bitOf_17 : decode cX1_bitOf 17 = .ok (.bipush 8, 2) := by decide +kernel
theorem dX1_bitOf_19 : decode cX1_bitOf 19 = .ok (.if_icmp .ge 17, 3) := by decide +kernel
theorem dX1_bitOf_22 : decode cX1_bitOf 22 = .ok (.aload_n 0, 1) := by decide +kernel
theorem dX1_bitOf_23 : decode cX1_bitOf 23 = .ok (.getfield 11, 3) := by decide +kernel
theorem dX1_bitOf_26 : decode cX1_bitOf 26 = .ok (.bipush 8, 2) := by decide +kernel
theorem dX1_bitOf_28 : decode cX1_bitOf 28 = .ok (.iload_n 1, 1) := by decide +kernel
theorem dX1_bitOf_29 : decode cX1_bitOf 29 = .ok (.imul, 1) := by decide +kernel
theorem dX1_bitOf_30 : decode cX1_bitOf 30 = .ok (.iload_n 2, 1) := by decide +kernel
theorem dX1_bitOf_31 : decode cX1_bitOf 31 = .ok (.iadd, 1) := by decide +kernel
theorem dX1_bitOf_32 : decode cX1_bitOf 32 = .ok (.iaload, 1) := by decide +kernel
theorem dX1_bitOf_33 : decode cX1_bitOf 33 = .ok (.goto 4, 3) := by decide +kernel
theorem dX1_bitOf_36 : decode cX1_bitOf 36 = .ok (.iconst 1, 1) := by decide +kernel
theorem dX1_bitOf_37 : decode cX1_bitOf 37 = .ok (.ireturn, 1) := by decide +kernel
theorem dX1_set_0 : decode cX1_set 0 = .ok (.aload_n 0, 1) := by decide +kernel
theorem dX1_set_1 : decode cX1_set 1 = .ok (.getfield 32, 3) := by decide +kernel
theorem dX1_set_4 : decode cX1_set 4 = .ok (.bipush 60, 2) := by decide +kernel
theorem dX1_set_6 : decode cX1_set 6 = .ok (.if_icmp .ge 28, 3) := by decide +kernel
theorem dX1_set_9 : decode cX1_set 9 = .ok (.iload_n 1, 1) := by decide +kernel
theorem dX1_set_10 : decode cX1_set 10 = .ok (.ifCond .lt 24, 3) := by decide +kernel
theorem dX1_set_13 : decode cX1_set 13 = .ok (.iload_n 1, 1) := by decide +kernel
theorem dX1_set_14 : decode cX1_set 14 = .ok (.bipush 8, 2) := by decide +kernel
theorem dX1_set_16 : decode cX1_set 16 = .ok (.if_icmp .ge 18, 3) := by decide +kernel
theorem dX1_set_19 : decode cX1_set 19 = .ok (.aload_n 0, 1) := by decide +kernel
theorem dX1_set_20 : decode cX1_set 20 = .ok (.getfield 11, 3) := by decide +kernel
theorem dX1_set_23 : decode cX1_set 23 = .ok (.bipush 8, 2) := by decide +kernel
theorem dX1_set_25 : decode cX1_set 25 = .ok (.aload_n 0, 1) := by decide +kernel
theorem dX1_set_26 : decode cX1_set 26 = .ok (.getfield 32, 3) := by decide +kernel
theorem dX1_set_29 : decode cX1_set 29 = .ok (.imul, 1) := by decide +kernel
theorem dX1_set_30 : decode cX1_set 30 = .ok (.iload_n 1, 1) := by decide +kernel
theorem dX1_set_31 : decode cX1_set 31 = .ok (.iadd, 1) := by decide +kernel
theorem dX1_set_32 : decode cX1_set 32 = .ok (.iload_n 2, 1) := by decide +kernel
theorem dX1_set_33 : decode cX1_set 33 = .ok (.iastore, 1) := by decide +kernel
theorem dX1_set_34 : decode cX1_set 34 = .ok (.return_, 1) := by decide +kernel
theorem dX1_grow_0 : decode cX1_grow 0 = .ok (.aload_n 0, 1) := by decide +kernel
theorem dX1_grow_1 : decode cX1_grow 1 = .ok (.getfield 32, 3) := by decide +kernel
theorem dX1_grow_4 : decode cX1_grow 4 = .ok (.aload_n 0, 1) := by decide +kernel
theorem dX1_grow_5 : decode cX1_grow 5 = .ok (.getfield 24, 3) := by decide +kernel
theorem dX1_grow_8 : decode cX1_grow 8 = .ok (.getfield 36, 3) := by decide +kernel
theorem dX1_grow_11 : decode cX1_grow 11 = .ok (.if_icmp .ge 263, 3) := by decide +kernel
theorem dX1_grow_14 : decode cX1_grow 14 = .ok (.aload_n 0, 1) := by decide +kernel
theorem dX1_grow_15 : decode cX1_grow 15 = .ok (.getfield 32, 3) := by decide +kernel
theorem dX1_grow_18 : decode cX1_grow 18 = .ok (.bipush 60, 2) := by decide +kernel
theorem dX1_grow_20 : decode cX1_grow 20 = .ok (.if_icmp .ge 254, 3) := by decide +kernel
theorem dX1_grow_23 : decode cX1_grow 23 = .ok (.aload_n 0, 1) := by decide +kernel
theorem dX1_grow_24 : decode cX1_grow 24 = .ok (.getfield 24, 3) := by decide +kernel
theorem dX1_grow_27 : decode cX1_grow 27 = .ok (.aload_n 0, 1) := by decide +kernel
theorem dX1_grow_28 : decode cX1_grow 28 = .ok (.getfield 32, 3) := by decide +kernel
theorem dX1_grow_31 : decode cX1_grow 31 = .ok (.invokevirtual 41, 3) := by decide +kernel
theorem dX1_grow_34 : decode cX1_grow 34 = .ok (.astore_n 1, 1) := by decide +kernel
theorem dX1_grow_35 : decode cX1_grow 35 = .ok (.aload_n 0, 1) := by decide +kernel
theorem dX1_grow_36 : decode cX1_grow 36 = .ok (.getfield 24, 3) := by decide +kernel
theorem dX1_grow_39 : decode cX1_grow 39 = .ok (.aload_n 0, 1) := by decide +kernel
theorem dX1_grow_40 : decode cX1_grow 40 = .ok (.getfield 32, 3) := by decide +kernel
theorem dX1_grow_43 : decode cX1_grow 43 = .ok (.iconst 0, 1) := by decide +kernel
theorem dX1_grow_44 : decode cX1_grow 44 = .ok (.invokevirtual 45, 3) := by decide +kernel
theorem dX1_grow_47 : decode cX1_grow 47 = .ok (.istore_n 2, 1) := by decide +kernel
theorem dX1_grow_48 : decode cX1_grow 48 = .ok (.aload_n 0, 1) := by decide +kernel
theorem dX1_grow_49 : decode cX1_grow 49 = .ok (.getfield 24, 3) := by decide +kernel
theorem dX1_grow_52 : decode cX1_grow 52 = .ok (.aload_n 0, 1) := by decide +kernel
theorem dX1_grow_53 : decode cX1_grow 53 = .ok (.getfield 32, 3) := by decide +kernel
theorem dX1_grow_56 : decode cX1_grow 56 = .ok (.iconst 1, 1) := by decide +kernel
theorem dX1_grow_57 : decode cX1_grow 57 = .ok (.invokevirtual 45, 3) := by decide +kernel
theorem dX1_grow_60 : decode cX1_grow 60 = .ok (.istore_n 3, 1) := by decide +kernel
theorem dX1_grow_61 : decode cX1_grow 61 = .ok (.aload_n 0, 1) := by decide +kernel
theorem dX1_grow_62 : decode cX1_grow 62 = .ok (.getfield 24, 3) := by decide +kernel
theorem dX1_grow_65 : decode cX1_grow 65 = .ok (.aload_n 0, 1) := by decide +kernel
theorem dX1_grow_66 : decode cX1_grow 66 = .ok (.getfield 32, 3) := by decide +kernel
theorem dX1_grow_69 : decode cX1_grow 69 = .ok (.iconst 2, 1) := by decide +kernel
theorem dX1_grow_70 : decode cX1_grow 70 = .ok (.invokevirtual 45, 3) := by decide +kernel
theorem dX1_grow_73 : decode cX1_grow 73 = .ok (.istore 4, 2) := by decide +kernel
theorem dX1_grow_75 : decode cX1_grow 75 = .ok (.aload_n 1, 1) := by decide +kernel
theorem dX1_grow_76 : decode cX1_grow 76 = .ok (.ifnonnull 7, 3) := by decide +kernel
theorem dX1_grow_79 : decode cX1_grow 79 = .ok (.iconst 0, 1) := by decide +kernel
theorem dX1_grow_80 : decode cX1_grow 80 = .ok (.goto 7, 3) := by decide +kernel
theorem dX1_grow_83 : decode cX1_grow 83 = .ok (.aload_n 1, 1) := by decide +kernel
theorem dX1_grow_84 : decode cX1_grow 84 = .ok (.getfield 49, 3) := by decide +kernel
theorem dX1_grow_87 : decode cX1_grow 87 = .ok (.tableswitch 169 1 9 #[49, 74, 106, 122, 132, 147, 147, 147, 157], 49) := by decide +kernel
theorem dX1_grow_136 : decode cX1_grow 136 = .ok (.aload_n 0, 1) := by decide +kernel
theorem dX1_grow_137 : decode cX1_grow 137 = .ok (.iconst 0, 1) := by decide +kernel
theorem dX1_grow_138 : decode cX1_grow 138 = .ok (.aload_n 0, 1) := by decide +kernel
theorem dX1_grow_139 : decode cX1_grow 139 = .ok (.aload_n 1, 1) := by decide +kernel
theorem dX1_grow_140 : decode cX1_grow 140 = .ok (.aload_n 0, 1) := by decide +kernel
theorem dX1_grow_141 : decode cX1_grow 141 = .ok (.iload_n 2, 1) := by decide +kernel
theorem dX1_grow_142 : decode cX1_grow 142 = .ok (.iconst 0, 1) := by decide +kernel
theorem dX1_grow_143 : decode cX1_grow 143 = .ok (.invokevirtual 54, 3) := by decide +kernel
theorem dX1_grow_146 : decode cX1_grow 146 = .ok (.aload_n 0, 1) := by decide +kernel
theorem dX1_grow_147 : decode cX1_grow 147 = .ok (.iload_n 3, 1) := by decide +kernel
theorem dX1_grow_148 : decode cX1_grow 148 = .ok (.iconst 0, 1) := by decide +kernel
theorem dX1_grow_149 : decode cX1_grow 149 = .ok (.invokevirtual 54, 3) := by decide +kernel
theorem dX1_grow_152 : decode cX1_grow 152 = .ok (.invokevirtual 57, 3) := by decide +kernel
theorem dX1_grow_155 : decode cX1_grow 155 = .ok (.invokevirtual 61, 3) := by decide +kernel
theorem dX1_grow_158 : decode cX1_grow 158 = .ok (.goto 103, 3) := by decide +kernel
theorem dX1_grow_161 : decode cX1_grow 161 = .ok (.aload_n 0, 1) := by decide +kernel
theorem dX1_grow_162 : decode cX1_grow 162 = .ok (.iconst 0, 1) := by decide +kernel
theorem dX1_grow_163 : decode cX1_grow 163 = .ok (.aload_n 1, 1) := by decide +kernel
theorem dX1_grow_164 : decode cX1_grow 164 = .ok (.getstatic 65, 3) := by decide +kernel
theorem dX1_grow_167 : decode cX1_grow 167 = .ok (.if_acmp .ne 12, 3) := by decide +kernel
theorem dX1_grow_170 : decode cX1_grow 170 = .ok (.aload_n 0, 1) := by decide +kernel
theorem dX1_grow_171 : decode cX1_grow 171 = .ok (.iload_n 2, 1) := by decide +kernel
theorem dX1_grow_172 : decode cX1_grow 172 = .ok (.iload_n 3, 1) := by decide +kernel
theorem dX1_grow_173 : decode cX1_grow 173 = .ok (.invokevirtual 69, 3) := by decide +kernel
theorem dX1_grow_176 : decode cX1_grow 176 = .ok (.goto 11, 3) := by decide +kernel
theorem dX1_grow_179 : decode cX1_grow 179 = .ok (.aload_n 0, 1) := by decide +kernel
theorem dX1_grow_180 : decode cX1_grow 180 = .ok (.iload_n 2, 1) := by decide +kernel
theorem dX1_grow_181 : decode cX1_grow 181 = .ok (.iload_n 3, 1) := by decide +kernel
theorem dX1_grow_182 : decode cX1_grow 182 = .ok (.invokevirtual 69, 3) := by decide +kernel
theorem dX1_grow_185 : decode cX1_grow 185 = .ok (.iconst 1, 1) := by decide +kernel
theorem dX1_grow_186 : decode cX1_grow 186 = .ok (.ixor, 1) := by decide +kernel
theorem dX1_grow_187 : decode cX1_grow 187 = .ok (.invokevirtual 61, 3) := by decide +kernel
theorem dX1_grow_190 : decode cX1_grow 190 = .ok (.goto 71, 3) := by decide +kernel
theorem dX1_grow_193 : decode cX1_grow 193 = .ok (.aload_n 0, 1) := by decide +kernel
theorem dX1_grow_194 : decode cX1_grow 194 = .ok (.aload_n 0, 1) := by decide +kernel
theorem dX1_grow_195 : decode cX1_grow 195 = .ok (.iload_n 2, 1) := by decide +kernel
theorem dX1_grow_196 : decode cX1_grow 196 = .ok (.iconst 0, 1) := by decide +kernel
theorem dX1_grow_197 : decode cX1_grow 197 = .ok (.invokevirtual 54, 3) := by decide +kernel
theorem dX1_grow_200 : decode cX1_grow 200 = .ok (.iload_n 3, 1) := by decide +kernel
theorem dX1_grow_201 : decode cX1_grow 201 = .ok (.iload 4, 2) := by decide +kernel
theorem dX1_grow_203 : decode cX1_grow 203 = .ok (.invokevirtual 72, 3) := by decide +kernel
theorem dX1_grow_206 : decode cX1_grow 206 = .ok (.goto 55, 3) := by decide +kernel
theorem dX1_grow_209 : decode cX1_grow 209 = .ok (.aload_n 0, 1) := by decide +kernel
theorem dX1_grow_210 : decode cX1_grow 210 = .ok (.aload_n 1, 1) := by decide +kernel
theorem dX1_grow_211 : decode cX1_grow 211 = .ok (.iload_n 2, 1) := by decide +kernel
theorem dX1_grow_212 : decode cX1_grow 212 = .ok (.iload_n 3, 1) := by decide +kernel
theorem dX1_grow_213 : decode cX1_grow 213 = .ok (.invokevirtual 76, 3) := by decide +kernel
theorem dX1_grow_216 : decode cX1_grow 216 = .ok (.goto 45, 3) := by decide +kernel
theorem dX1_grow_219 : decode cX1_grow 219 = .ok (.aload_n 0, 1) := by decide +kernel
theorem dX1_grow_220 : decode cX1_grow 220 = .ok (.iconst 0, 1) := by decide +kernel
theorem dX1_grow_221 : decode cX1_grow 221 = .ok (.aload_n 0, 1) := by decide +kernel
theorem dX1_grow_222 : decode cX1_grow 222 = .ok (.aload_n 1, 1) := by decide +kernel
theorem dX1_grow_223 : decode cX1_grow 223 = .ok (.iload_n 2, 1) := by decide +kernel
theorem dX1_grow_224 : decode cX1_grow 224 = .ok (.iload_n 3, 1) := by decide +kernel
theorem dX1_grow_225 : decode cX1_grow 225 = .ok (.invokevirtual 80, 3) := by decide +kernel
theorem dX1_grow_228 : decode cX1_grow 228 = .ok (.invokevirtual 61, 3) := by decide +kernel
theorem dX1_grow_231 : decode cX1_grow 231 = .ok (.goto 30, 3) := by decide +kernel
theorem dX1_grow_234 : decode cX1_grow 234 = .ok (.aload_n 0, 1) := by decide +kernel
theorem dX1_grow_235 : decode cX1_grow 235 = .ok (.aload_n 1, 1) := by decide +kernel
theorem dX1_grow_236 : decode cX1_grow 236 = .ok (.iload_n 2, 1) := by decide +kernel
theorem dX1_grow_237 : decode cX1_grow 237 = .ok (.iload_n 3, 1) := by decide +kernel
theorem dX1_grow_238 : decode cX1_grow 238 = .ok (.invokevirtual 83, 3) := by decide +kernel
theorem dX1_grow_241 : decode cX1_grow 241 = .ok (.goto 20, 3) := by decide +kernel
theorem dX1_grow_244 : decode cX1_grow 244 = .ok (.aload_n 0, 1) := by decide +kernel
theorem dX1_grow_245 : decode cX1_grow 245 = .ok (.aload_n 1, 1) := by decide +kernel
theorem dX1_grow_246 : decode cX1_grow 246 = .ok (.iload_n 2, 1) := by decide +kernel
theorem dX1_grow_247 : decode cX1_grow 247 = .ok (.iload_n 3, 1) := by decide +kernel
theorem dX1_grow_248 : decode cX1_grow 248 = .ok (.iload 4, 2) := by decide +kernel
theorem dX1_grow_250 : decode cX1_grow 250 = .ok (.invokevirtual 86, 3) := by decide +kernel
theorem dX1_grow_253 : decode cX1_grow 253 = .ok (.goto 8, 3) := by decide +kernel
theorem dX1_grow_256 : decode cX1_grow 256 = .ok (.aload_n 0, 1) := by decide +kernel
theorem dX1_grow_257 : decode cX1_grow 257 = .ok (.aload_n 1, 1) := by decide +kernel
theorem dX1_grow_258 : decode cX1_grow 258 = .ok (.invokevirtual 90, 3) := by decide +kernel
theorem dX1_grow_261 : decode cX1_grow 261 = .ok (.aload_n 0, 1) := by decide +kernel
theorem dX1_grow_262 : decode cX1_grow 262 = .ok (.dup, 1) := by decide +kernel
theorem dX1_grow_263 : decode cX1_grow 263 = .ok (.getfield 32, 3) := by decide +kernel
theorem dX1_grow_266 : decode cX1_grow 266 = .ok (.iconst 1, 1) := by decide +kernel
theorem dX1_grow_267 : decode cX1_grow 267 = .ok (.iadd, 1) := by decide +kernel
theorem dX1_grow_268 : decode cX1_grow 268 = .ok (.putfield 32, 3) := by decide +kernel
theorem dX1_grow_271 : decode cX1_grow 271 = .ok (.goto (-271), 3) := by decide +kernel
theorem dX1_grow_274 : decode cX1_grow 274 = .ok (.return_, 1) := by decide +kernel
theorem dX1_widthOf_0 : decode cX1_widthOf 0 = .ok (.aload_n 0, 1) := by decide +kernel
theorem dX1_widthOf_1 : decode cX1_widthOf 1 = .ok (.getfield 24, 3) := by decide +kernel
theorem dX1_widthOf_4 : decode cX1_widthOf 4 = .ok (.iload_n 1, 1) := by decide +kernel
theorem dX1_widthOf_5 : decode cX1_widthOf 5 = .ok (.invokevirtual 94, 3) := by decide +kernel
theorem dX1_widthOf_8 : decode cX1_widthOf 8 = .ok (.invokestatic 98, 3) := by decide +kernel
theorem dX1_widthOf_11 : decode cX1_widthOf 11 = .ok (.ireturn, 1) := by decide +kernel
theorem dX1_begin_0 : decode cX1_begin 0 = .ok (.aload_n 0, 1) := by decide +kernel
theorem dX1_begin_1 : decode cX1_begin 1 = .ok (.getfield 24, 3) := by decide +kernel
theorem dX1_begin_4 : decode cX1_begin 4 = .ok (.aload_n 0, 1) := by decide +kernel
theorem dX1_begin_5 : decode cX1_begin 5 = .ok (.getfield 32, 3) := by decide +kernel
theorem dX1_begin_8 : decode cX1_begin 8 = .ok (.iconst 0, 1) := by decide +kernel
theorem dX1_begin_9 : decode cX1_begin 9 = .ok (.invokevirtual 101, 3) := by decide +kernel
theorem dX1_begin_12 : decode cX1_begin 12 = .ok (.istore_n 2, 1) := by decide +kernel
theorem dX1_begin_13 : decode cX1_begin 13 = .ok (.aload_n 1, 1) := by decide +kernel
theorem dX1_begin_14 : decode cX1_begin 14 = .ok (.getstatic 104, 3) := by decide +kernel
theorem dX1_begin_17 : decode cX1_begin 17 = .ok (.if_acmp .eq 10, 3) := by decide +kernel
theorem dX1_begin_20 : decode cX1_begin 20 = .ok (.aload_n 1, 1) := by decide +kernel
theorem dX1_begin_21 : decode cX1_begin 21 = .ok (.getstatic 107, 3) := by decide +kernel
theorem dX1_begin_24 : decode cX1_begin 24 = .ok (.if_acmp .ne 21, 3) := by decide +kernel
theorem dX1_begin_27 : decode cX1_begin 27 = .ok (.aload_n 0, 1) := by decide +kernel
theorem dX1_begin_28 : decode cX1_begin 28 = .ok (.iconst 0, 1) := by decide +kernel
theorem dX1_begin_29 : decode cX1_begin 29 = .ok (.aload_n 1, 1) := by decide +kernel
theorem dX1_begin_30 : decode cX1_begin 30 = .ok (.getstatic 104, 3) := by decide +kernel
theorem dX1_begin_33 : decode cX1_begin 33 = .ok (.if_acmp .ne 7, 3) := by decide +kernel
theorem dX1_begin_36 : decode cX1_begin 36 = .ok (.iconst 0, 1) := by decide +kernel
theorem dX1_begin_37 : decode cX1_begin 37 = .ok (.goto 4, 3) := by decide +kernel
theorem dX1_begin_40 : decode cX1_begin 40 = .ok (.iconst 1, 1) := by decide +kernel
theorem dX1_begin_41 : decode cX1_begin 41 = .ok (.invokevirtual 61, 3) := by decide +kernel
theorem dX1_begin_44 : decode cX1_begin 44 = .ok (.return_, 1) := by decide +kernel
theorem dX1_begin_45 : decode cX1_begin 45 = .ok (.iconst 0, 1) := by decide +kernel
theorem dX1_begin_46 : decode cX1_begin 46 = .ok (.istore_n 3, 1) := by decide +kernel
theorem dX1_begin_47 : decode cX1_begin 47 = .ok (.iload_n 3, 1) := by decide +kernel
theorem dX1_begin_48 : decode cX1_begin 48 = .ok (.aload_n 0, 1) := by decide +kernel
theorem dX1_begin_49 : decode cX1_begin 49 = .ok (.aload_n 0, 1) := by decide +kernel
theorem dX1_begin_50 : decode cX1_begin 50 = .ok (.getfield 32, 3) := by decide +kernel
theorem dX1_begin_53 : decode cX1_begin 53 = .ok (.invokevirtual 110, 3) := by decide +kernel
theorem dX1_begin_56 : decode cX1_begin 56 = .ok (.if_icmp .ge 50, 3) := by decide +kernel
theorem dX1_begin_59 : decode cX1_begin 59 = .ok (.aload_n 1, 1) := by decide +kernel
theorem dX1_begin_60 : decode cX1_begin 60 = .ok (.getstatic 113, 3) := by decide +kernel
theorem dX1_begin_63 : decode cX1_begin 63 = .ok (.if_acmp .ne 18, 3) := by decide +kernel
theorem dX1_begin_66 : decode cX1_begin 66 = .ok (.aload_n 0, 1) := by decide +kernel
theorem dX1_begin_67 : decode cX1_begin 67 = .ok (.iload_n 3, 1) := by decide +kernel
theorem dX1_begin_68 : decode cX1_begin 68 = .ok (.iconst 2, 1) := by decide +kernel
theorem dX1_begin_69 : decode cX1_begin 69 = .ok (.iconst 1, 1) := by decide +kernel
theorem dX1_begin_70 : decode cX1_begin 70 = .ok (.iload_n 2, 1) := by decide +kernel
theorem dX1_begin_71 : decode cX1_begin 71 = .ok (.iadd, 1) := by decide +kernel
theorem dX1_begin_72 : decode cX1_begin 72 = .ok (.iload_n 3, 1) := by decide +kernel
theorem dX1_begin_73 : decode cX1_begin 73 = .ok (.iadd, 1) := by decide +kernel
theorem dX1_begin_74 : decode cX1_begin 74 = .ok (.imul, 1) := by decide +kernel
theorem dX1_begin_75 : decode cX1_begin 75 = .ok (.invokevirtual 61, 3) := by decide +kernel
theorem dX1_begin_78 : decode cX1_begin 78 = .ok (.goto 22, 3) := by decide +kernel
theorem dX1_begin_81 : decode cX1_begin 81 = .ok (.aload_n 0, 1) := by decide +kernel
theorem dX1_begin_82 : decode cX1_begin 82 = .ok (.iload_n 3, 1) := by decide +kernel
theorem dX1_begin_83 : decode cX1_begin 83 = .ok (.iload_n 2, 1) := by decide +kernel
theorem dX1_begin_84 : decode cX1_begin 84 = .ok (.iload_n 3, 1) := by decide +kernel
theorem dX1_begin_85 : decode cX1_begin 85 = .ok (.ishr, 1) := by decide +kernel
theorem dX1_begin_86 : decode cX1_begin 86 = .ok (.iconst 1, 1) := by decide +kernel
theorem dX1_begin_87 : decode cX1_begin 87 = .ok (.iand, 1) := by decide +kernel
theorem dX1_begin_88 : decode cX1_begin 88 = .ok (.iconst 1, 1) := by decide +kernel
theorem dX1_begin_89 : decode cX1_begin 89 = .ok (.if_icmp .ne 7, 3) := by decide +kernel
theorem dX1_begin_92 : decode cX1_begin 92 = .ok (.iconst 0, 1) := by decide +kernel
theorem dX1_begin_93 : decode cX1_begin 93 = .ok (.goto 4, 3) := by decide +kernel
theorem dX1_begin_96 : decode cX1_begin 96 = .ok (.iconst 1, 1) := by decide +kernel
theorem dX1_begin_97 : decode cX1_begin 97 = .ok (.invokevirtual 61, 3) := by decide +kernel
theorem dX1_begin_100 : decode cX1_begin 100 = .ok (.iinc 3 1, 3) := by decide +kernel
theorem dX1_begin_103 : decode cX1_begin 103 = .ok (.goto (-56), 3) := by decide +kernel
theorem dX1_begin_106 : decode cX1_begin 106 = .ok (.return_, 1) := by decide +kernel
theorem dX1_logic_0 : decode cX1_logic 0 = .ok (.getstatic 116, 3) := by decide +kernel
theorem dX1_logic_3 : decode cX1_logic 3 = .ok (.aload_n 1, 1) := by decide +kernel
theorem dX1_logic_4 : decode cX1_logic 4 = .ok (.invokevirtual 121, 3) := by decide +kernel
theorem dX1_logic_7 : decode cX1_logic 7 = .ok (.iaload, 1) := by decide +kernel
theorem dX1_logic_8 : decode cX1_logic 8 = .ok (.tableswitch 66 4 7 #[32, 36, 46, 56], 32) := by decide +kernel
theorem dX1_logic_40 : decode cX1_logic 40 = .ok (.iload_n 2, 1) := by decide +kernel
theorem dX1_logic_41 : decode cX1_logic 41 = .ok (.iconst 1, 1) := by decide +kernel
theorem dX1_logic_42 : decode cX1_logic 42 = .ok (.ixor, 1) := by decide +kernel
theorem dX1_logic_43 : decode cX1_logic 43 = .ok (.ireturn, 1) := by decide +kernel
theorem dX1_logic_44 : decode cX1_logic 44 = .ok (.aload_n 0, 1) := by decide +kernel
theorem dX1_logic_45 : decode cX1_logic 45 = .ok (.getfield 28, 3) := by decide +kernel
theorem dX1_logic_48 : decode cX1_logic 48 = .ok (.iload_n 2, 1) := by decide +kernel
theorem dX1_logic_49 : decode cX1_logic 49 = .ok (.iload_n 3, 1) := by decide +kernel
theorem dX1_logic_50 : decode cX1_logic 50 = .ok (.invokevirtual 125, 3) := by decide +kernel
theorem dX1_logic_53 : decode cX1_logic 53 = .ok (.ireturn, 1) := by decide +kernel
theorem dX1_logic_54 : decode cX1_logic 54 = .ok (.aload_n 0, 1) := by decide +kernel
theorem dX1_logic_55 : decode cX1_logic 55 = .ok (.getfield 28, 3) := by decide +kernel
theorem dX1_logic_58 : decode cX1_logic 58 = .ok (.iload_n 2, 1) := by decide +kernel
theorem dX1_logic_59 : decode cX1_logic 59 = .ok (.iload_n 3, 1) := by decide +kernel
theorem dX1_logic_60 : decode cX1_logic 60 = .ok (.invokevirtual 130, 3) := by decide +kernel
theorem dX1_logic_63 : decode cX1_logic 63 = .ok (.ireturn, 1) := by decide +kernel
theorem dX1_logic_64 : decode cX1_logic 64 = .ok (.aload_n 0, 1) := by decide +kernel
theorem dX1_logic_65 : decode cX1_logic 65 = .ok (.getfield 28, 3) := by decide +kernel
theorem dX1_logic_68 : decode cX1_logic 68 = .ok (.iload_n 2, 1) := by decide +kernel
theorem dX1_logic_69 : decode cX1_logic 69 = .ok (.iload_n 3, 1) := by decide +kernel
theorem dX1_logic_70 : decode cX1_logic 70 = .ok (.invokevirtual 133, 3) := by decide +kernel
theorem dX1_logic_73 : decode cX1_logic 73 = .ok (.ireturn, 1) := by decide +kernel
theorem dX1_logic_74 : decode cX1_logic 74 = .ok (.aload_n 0, 1) := by decide +kernel
theorem dX1_logic_75 : decode cX1_logic 75 = .ok (.getfield 28, 3) := by decide +kernel
theorem dX1_logic_78 : decode cX1_logic 78 = .ok (.iload_n 2, 1) := by decide +kernel
theorem dX1_logic_79 : decode cX1_logic 79 = .ok (.iconst 1, 1) := by decide +kernel
theorem dX1_logic_80 : decode cX1_logic 80 = .ok (.ixor, 1) := by decide +kernel
theorem dX1_logic_81 : decode cX1_logic 81 = .ok (.iload_n 3, 1) := by decide +kernel
theorem dX1_logic_82 : decode cX1_logic 82 = .ok (.invokevirtual 130, 3) := by decide +kernel
theorem dX1_logic_85 : decode cX1_logic 85 = .ok (.ireturn, 1) := by decide +kernel
theorem dX1_equal_0 : decode cX1_equal 0 = .ok (.iconst 0, 1) := by decide +kernel
theorem dX1_equal_1 : decode cX1_equal 1 = .ok (.istore_n 3, 1) := by decide +kernel
theorem dX1_equal_2 : decode cX1_equal 2 = .ok (.iconst 0, 1) := by decide +kernel
theorem dX1_equal_3 : decode cX1_equal 3 = .ok (.istore 4, 2) := by decide +kernel
theorem dX1_equal_5 : decode cX1_equal 5 = .ok (.iload 4, 2) := by decide +kernel
theorem dX1_equal_7 : decode cX1_equal 7 = .ok (.aload_n 0, 1) := by decide +kernel
theorem dX1_equal_8 : decode cX1_equal 8 = .ok (.iload_n 1, 1) := by decide +kernel
theorem dX1_equal_9 : decode cX1_equal 9 = .ok (.invokevirtual 110, 3) := by decide +kernel
theorem dX1_equal_12 : decode cX1_equal 12 = .ok (.if_icmp .ge 41, 3) := by decide +kernel
theorem dX1_equal_15 : decode cX1_equal 15 = .ok (.aload_n 0, 1) := by decide +kernel
theorem dX1_equal_16 : decode cX1_equal 16 = .ok (.getfield 28, 3) := by decide +kernel
theorem dX1_equal_19 : decode cX1_equal 19 = .ok (.iload_n 3, 1) := by decide +kernel
theorem dX1_equal_20 : decode cX1_equal 20 = .ok (.aload_n 0, 1) := by decide +kernel
theorem dX1_equal_21 : decode cX1_equal 21 = .ok (.getfield 28, 3) := by decide +kernel
theorem dX1_equal_24 : decode cX1_equal 24 = .ok (.aload_n 0, 1) := by decide +kernel
theorem dX1_equal_25 : decode cX1_equal 25 = .ok (.iload_n 1, 1) := by decide +kernel
theorem dX1_equal_26 : decode cX1_equal 26 = .ok (.iload 4, 2) := by decide +kernel
theorem dX1_equal_28 : decode cX1_equal 28 = .ok (.invokevirtual 54, 3) := by decide +kernel
theorem dX1_equal_31 : decode cX1_equal 31 = .ok (.aload_n 0, 1) := by decide +kernel
theorem dX1_equal_32 : decode cX1_equal 32 = .ok (.iload_n 2, 1) := by decide +kernel
theorem dX1_equal_33 : decode cX1_equal 33 = .ok (.iload 4, 2) := by decide +kernel
theorem dX1_equal_35 : decode cX1_equal 35 = .ok (.invokevirtual 54, 3) := by decide +kernel
theorem dX1_equal_38 : decode cX1_equal 38 = .ok (.invokevirtual 133, 3) := by decide +kernel
theorem dX1_equal_41 : decode cX1_equal 41 = .ok (.iconst 1, 1) := by decide +kernel
theorem dX1_equal_42 : decode cX1_equal 42 = .ok (.ixor, 1) := by decide +kernel
theorem dX1_equal_43 : decode cX1_equal 43 = .ok (.invokevirtual 125, 3) := by decide +kernel
theorem dX1_equal_46 : decode cX1_equal 46 = .ok (.istore_n 3, 1) := by decide +kernel
theorem dX1_equal_47 : decode cX1_equal 47 = .ok (.iinc 4 1, 3) := by decide +kernel
theorem dX1_equal_50 : decode cX1_equal 50 = .ok (.goto (-45), 3) := by decide +kernel
theorem dX1_equal_53 : decode cX1_equal 53 = .ok (.iload_n 3, 1) := by decide +kernel
theorem dX1_equal_54 : decode cX1_equal 54 = .ok (.ireturn, 1) := by decide +kernel
theorem dX1_choose_0 : decode cX1_choose 0 = .ok (.iconst 0, 1) := by decide +kernel
theorem dX1_choose_1 : decode cX1_choose 1 = .ok (.istore 4, 2) := by decide +kernel
theorem dX1_choose_3 : decode cX1_choose 3 = .ok (.iload 4, 2) := by decide +kernel
theorem dX1_choose_5 : decode cX1_choose 5 = .ok (.aload_n 0, 1) := by decide +kernel
theorem dX1_choose_6 : decode cX1_choose 6 = .ok (.iload_n 2, 1) := by decide +kernel
theorem dX1_choose_7 : decode cX1_choose 7 = .ok (.invokevirtual 110, 3) := by decide +kernel
theorem dX1_choose_10 : decode cX1_choose 10 = .ok (.if_icmp .ge 37, 3) := by decide +kernel
theorem dX1_choose_13 : decode cX1_choose 13 = .ok (.aload_n 0, 1) := by decide +kernel
theorem dX1_choose_14 : decode cX1_choose 14 = .ok (.iload 4, 2) := by decide +kernel
theorem dX1_choose_16 : decode cX1_choose 16 = .ok (.aload_n 0, 1) := by decide +kernel
theorem dX1_choose_17 : decode cX1_choose 17 = .ok (.getfield 28, 3) := by decide +kernel
theorem dX1_choose_20 : decode cX1_choose 20 = .ok (.iload_n 1, 1) := by decide +kernel
theorem dX1_choose_21 : decode cX1_choose 21 = .ok (.aload_n 0, 1) := by decide +kernel
theorem dX1_choose_22 : decode cX1_choose 22 = .ok (.iload_n 2, 1) := by decide +kernel
theorem dX1_choose_23 : decode cX1_choose 23 = .ok (.iload 4, 2) := by decide +kernel
theorem dX1_choose_25 : decode cX1_choose 25 = .ok (.invokevirtual 54, 3) := by decide +kernel
theorem dX1_choose_28 : decode cX1_choose 28 = .ok (.aload_n 0, 1) := by decide +kernel
theorem dX1_choose_29 : decode cX1_choose 29 = .ok (.iload_n 3, 1) := by decide +kernel
theorem dX1_choose_30 : decode cX1_choose 30 = .ok (.iload 4, 2) := by decide +kernel
theorem dX1_choose_32 : decode cX1_choose 32 = .ok (.invokevirtual 54, 3) := by decide +kernel
theorem dX1_choose_35 : decode cX1_choose 35 = .ok (.invokevirtual 136, 3) := by decide +kernel
theorem dX1_choose_38 : decode cX1_choose 38 = .ok (.invokevirtual 61, 3) := by decide +kernel
theorem dX1_choose_41 : decode cX1_choose 41 = .ok (.iinc 4 1, 3) := by decide +kernel
theorem dX1_choose_44 : decode cX1_choose 44 = .ok (.goto (-41), 3) := by decide +kernel
theorem dX1_choose_47 : decode cX1_choose 47 = .ok (.return_, 1) := by decide +kernel
theorem dX1_less_0 : decode cX1_less 0 = .ok (.aload_n 0, 1) := by decide +kernel
theorem dX1_less_1 : decode cX1_less 1 = .ok (.iload_n 2, 1) := by decide +kernel
theorem dX1_less_2 : decode cX1_less 2 = .ok (.invokevirtual 110, 3) := by decide +kernel
theorem dX1_less_5 : decode cX1_less 5 = .ok (.iconst 1, 1) := by decide +kernel
theorem dX1_less_6 : decode cX1_less 6 = .ok (.isub, 1) := by decide +kernel
theorem dX1_less_7 : decode cX1_less 7 = .ok (.istore 4, 2) := by decide +kernel
theorem dX1_less_9 : decode cX1_less 9 = .ok (.aload_n 1, 1) := by decide +kernel
theorem dX1_less_10 : decode cX1_less 10 = .ok (.getstatic 140, 3) := by decide +kernel
theorem dX1_less_13 : decode cX1_less 13 = .ok (.if_acmp .eq 10, 3) := by decide +kernel
theorem dX1_less_16 : decode cX1_less 16 = .ok (.aload_n 1, 1) := by decide +kernel
theorem dX1_less_17 : decode cX1_less 17 = .ok (.getstatic 143, 3) := by decide +kernel
theorem dX1_less_20 : decode cX1_less 20 = .ok (.if_acmp .ne 7, 3) := by decide +kernel
theorem dX1_less_23 : decode cX1_less 23 = .ok (.iconst 1, 1) := by decide +kernel
theorem dX1_less_24 : decode cX1_less 24 = .ok (.goto 4, 3) := by decide +kernel
theorem dX1_less_27 : decode cX1_less 27 = .ok (.iconst 0, 1) := by decide +kernel
theorem dX1_less_28 : decode cX1_less 28 = .ok (.istore 5, 2) := by decide +kernel
theorem dX1_less_30 : decode cX1_less 30 = .ok (.aload_n 1, 1) := by decide +kernel
theorem dX1_less_31 : decode cX1_less 31 = .ok (.getstatic 146, 3) := by decide +kernel
theorem dX1_less_34 : decode cX1_less 34 = .ok (.if_acmp .eq 10, 3) := by decide +kernel
theorem dX1_less_37 : decode cX1_less 37 = .ok (.aload_n 1, 1) := by decide +kernel
theorem dX1_less_38 : decode cX1_less 38 = .ok (.getstatic 143, 3) := by decide +kernel
theorem dX1_less_41 : decode cX1_less 41 = .ok (.if_acmp .ne 7, 3) := by decide +kernel
theorem dX1_less_44 : decode cX1_less 44 = .ok (.iconst 0, 1) := by decide +kernel
theorem dX1_less_45 : decode cX1_less 45 = .ok (.goto 4, 3) := by decide +kernel
theorem dX1_less_48 : decode cX1_less 48 = .ok (.iconst 1, 1) := by decide +kernel
theorem dX1_less_49 : decode cX1_less 49 = .ok (.istore 6, 2) := by decide +kernel
theorem dX1_less_51 : decode cX1_less 51 = .ok (.iconst 0, 1) := by decide +kernel
theorem dX1_less_52 : decode cX1_less 52 = .ok (.istore 7, 2) := by decide +kernel
theorem dX1_less_54 : decode cX1_less 54 = .ok (.iload 7, 2) := by decide +kernel
theorem dX1_less_56 : decode cX1_less 56 = .ok (.iload 4, 2) := by decide +kernel
theorem dX1_less_58 : decode cX1_less 58 = .ok (.if_icmp .gt 74, 3) := by decide +kernel
theorem dX1_less_61 : decode cX1_less 61 = .ok (.iload 5, 2) := by decide +kernel
theorem dX1_less_63 : decode cX1_less 63 = .ok (.ifCond .eq 20, 3) := by decide +kernel
theorem dX1_less_66 : decode cX1_less 66 = .ok (.iload 7, 2) := by decide +kernel
theorem dX1_less_68 : decode cX1_less 68 = .ok (.iload 4, 2) := by decide +kernel
theorem dX1_less_70 : decode cX1_less 70 = .ok (.if_icmp .ne 13, 3) := by decide +kernel
theorem dX1_less_73 : decode cX1_less 73 = .ok (.aload_n 0, 1) := by decide +kernel
theorem dX1_less_74 : decode cX1_less 74 = .ok (.iload_n 2, 1) := by decide +kernel
theorem dX1_less_75 : decode cX1_less 75 = .ok (.iload 7, 2) := by decide +kernel
theorem dX1_less_77 : decode cX1_less 77 = .ok (.invokevirtual 54, 3) := by decide +kernel
theorem dX1_less_80 : decode cX1_less 80 = .ok (.goto 10, 3) := by decide +kernel
theorem dX1_less_83 : decode cX1_less 83 = .ok (.aload_n 0, 1) := by decide +kernel
theorem dX1_less_84 : decode cX1_less 84 = .ok (.iload_n 3, 1) := by decide +kernel
theorem dX1_less_85 : decode cX1_less 85 = .ok (.iload 7, 2) := by decide +kernel
theorem dX1_less_87 : decode cX1_less 87 = .ok (.invokevirtual 54, 3) := by decide +kernel
theorem dX1_less_90 : decode cX1_less 90 = .ok (.istore 8, 2) := by decide +kernel
theorem dX1_less_92 : decode cX1_less 92 = .ok (.aload_n 0, 1) := by decide +kernel
theorem dX1_less_93 : decode cX1_less 93 = .ok (.getfield 28, 3) := by decide +kernel
theorem dX1_less_96 : decode cX1_less 96 = .ok (.aload_n 0, 1) := by decide +kernel
theorem dX1_less_97 : decode cX1_less 97 = .ok (.getfield 28, 3) := by decide +kernel
theorem dX1_less_100 : decode cX1_less 100 = .ok (.aload_n 0, 1) := by decide +kernel
theorem dX1_less_101 : decode cX1_less 101 = .ok (.iload_n 2, 1) := by decide +kernel
theorem dX1_less_102 : decode cX1_less 102 = .ok (.iload 7, 2) := by decide +kernel
theorem dX1_less_104 : decode cX1_less 104 = .ok (.invokevirtual 54, 3) := by decide +kernel
theorem dX1_less_107 : decode cX1_less 107 = .ok (.aload_n 0, 1) := by decide +kernel
theorem dX1_less_108 : decode cX1_less 108 = .ok (.iload_n 3, 1) := by decide +kernel
theorem dX1_less_109 : decode cX1_less 109 = .ok (.iload 7, 2) := by decide +kernel
theorem dX1_less_111 : decode cX1_less 111 = .ok (.invokevirtual 54, 3) := by decide +kernel
theorem dX1_less_114 : decode cX1_less 114 = .ok (.invokevirtual 133, 3) := by decide +kernel
theorem dX1_less_117 : decode cX1_less 117 = .ok (.iload 8, 2) := by decide +kernel
theorem dX1_less_119 : decode cX1_less 119 = .ok (.iload 6, 2) := by decide +kernel
theorem dX1_less_121 : decode cX1_less 121 = .ok (.invokevirtual 136, 3) := by decide +kernel
theorem dX1_less_124 : decode cX1_less 124 = .ok (.istore 6, 2) := by decide +kernel
theorem dX1_less_126 : decode cX1_less 126 = .ok (.iinc 7 1, 3) := by decide +kernel
theorem dX1_less_129 : decode cX1_less 129 = .ok (.goto (-75), 3) := by decide +kernel
theorem dX1_less_132 : decode cX1_less 132 = .ok (.iload 6, 2) := by decide +kernel
theorem dX1_less_134 : decode cX1_less 134 = .ok (.ireturn, 1) := by decide +kernel
theorem dX1_place_0 : decode cX1_place 0 = .ok (.aload_n 1, 1) := by decide +kernel
theorem dX1_place_1 : decode cX1_place 1 = .ok (.getstatic 149, 3) := by decide +kernel
theorem dX1_place_4 : decode cX1_place 4 = .ok (.if_acmp .ne 7, 3) := by decide +kernel
theorem dX1_place_7 : decode cX1_place 7 = .ok (.iload_n 3, 1) := by decide +kernel
theorem dX1_place_8 : decode cX1_place 8 = .ok (.goto 4, 3) := by decide +kernel
theorem dX1_place_11 : decode cX1_place 11 = .ok (.iload_n 2, 1) := by decide +kernel
theorem dX1_place_12 : decode cX1_place 12 = .ok (.istore 4, 2) := by decide +kernel
theorem dX1_place_14 : decode cX1_place 14 = .ok (.aload_n 1, 1) := by decide +kernel
theorem dX1_place_15 : decode cX1_place 15 = .ok (.getstatic 152, 3) := by decide +kernel
theorem dX1_place_18 : decode cX1_place 18 = .ok (.if_acmp .ne 18, 3) := by decide +kernel
theorem dX1_place_21 : decode cX1_place 21 = .ok (.aload_n 0, 1) := by decide +kernel
theorem dX1_place_22 : decode cX1_place 22 = .ok (.getfield 24, 3) := by decide +kernel
theorem dX1_place_25 : decode cX1_place 25 = .ok (.aload_n 0, 1) := by decide +kernel
theorem dX1_place_26 : decode cX1_place 26 = .ok (.getfield 32, 3) := by decide +kernel
theorem dX1_place_29 : decode cX1_place 29 = .ok (.iconst 1, 1) := by decide +kernel
theorem dX1_place_30 : decode cX1_place 30 = .ok (.invokevirtual 101, 3) := by decide +kernel
theorem dX1_place_33 : decode cX1_place 33 = .ok (.goto 4, 3) := by decide +kernel
theorem dX1_place_36 : decode cX1_place 36 = .ok (.iconst 0, 1) := by decide +kernel
theorem dX1_place_37 : decode cX1_place 37 = .ok (.istore 5, 2) := by decide +kernel
theorem dX1_place_39 : decode cX1_place 39 = .ok (.aload_n 0, 1) := by decide +kernel
theorem dX1_place_40 : decode cX1_place 40 = .ok (.iload 4, 2) := by decide +kernel
theorem dX1_place_42 : decode cX1_place 42 = .ok (.invokevirtual 110, 3) := by decide +kernel
theorem dX1_place_45 : decode cX1_place 45 = .ok (.istore 6, 2) := by decide +kernel
theorem dX1_place_47 : decode cX1_place 47 = .ok (.aload_n 1, 1) := by decide +kernel
theorem dX1_place_48 : decode cX1_place 48 = .ok (.getstatic 155, 3) := by decide +kernel
theorem dX1_place_51 : decode cX1_place 51 = .ok (.if_acmp .ne 15, 3) := by decide +kernel
theorem dX1_place_54 : decode cX1_place 54 = .ok (.aload_n 0, 1) := by decide +kernel
theorem dX1_place_55 : decode cX1_place 55 = .ok (.iload_n 2, 1) := by decide +kernel
theorem dX1_place_56 : decode cX1_place 56 = .ok (.iload 6, 2) := by decide +kernel
theorem dX1_place_58 : decode cX1_place 58 = .ok (.iconst 1, 1) := by decide +kernel
theorem dX1_place_59 : decode cX1_place 59 = .ok (.isub, 1) := by decide +kernel
theorem dX1_place_60 : decode cX1_place 60 = .ok (.invokevirtual 54, 3) := by decide +kernel
theorem dX1_place_63 : decode cX1_place 63 = .ok (.goto 4, 3) := by decide +kernel
theorem dX1_place_66 : decode cX1_place 66 = .ok (.iconst 1, 1) := by decide +kernel
theorem dX1_place_67 : decode cX1_place 67 = .ok (.istore 7, 2) := by decide +kernel
theorem dX1_place_69 : decode cX1_place 69 = .ok (.iconst 0, 1) := by decide +kernel
theorem dX1_place_70 : decode cX1_place 70 = .ok (.istore 8, 2) := by decide +kernel
theorem dX1_place_72 : decode cX1_place 72 = .ok (.iload 8, 2) := by decide +kernel
theorem dX1_place_74 : decode cX1_place 74 = .ok (.aload_n 0, 1) := by decide +kernel
theorem dX1_place_75 : decode cX1_place 75 = .ok (.aload_n 0, 1) := by decide +kernel
theorem dX1_place_76 : decode cX1_place 76 = .ok (.getfield 32, 3) := by decide +kernel
theorem dX1_place_79 : decode cX1_place 79 = .ok (.invokevirtual 110, 3) := by decide +kernel
theorem dX1_place_82 : decode cX1_place 82 = .ok (.if_icmp .ge 67, 3) := by decide +kernel
theorem dX1_place_85 : decode cX1_place 85 = .ok (.iload 8, 2) := by decide +kernel
theorem dX1_place_87 : decode cX1_place 87 = .ok (.iload 5, 2) := by decide +kernel
theorem dX1_place_89 : decode cX1_place 89 = .ok (.iadd, 1) := by decide +kernel
theorem dX1_place_90 : decode cX1_place 90 = .ok (.iload 6, 2) := by decide +kernel
theorem dX1_place_92 : decode cX1_place 92 = .ok (.if_icmp .ge 23, 3) := by decide +kernel
theorem dX1_place_95 : decode cX1_place 95 = .ok (.aload_n 0, 1) := by decide +kernel
theorem dX1_place_96 : decode cX1_place 96 = .ok (.iload 8, 2) := by decide +kernel
theorem dX1_place_98 : decode cX1_place 98 = .ok (.aload_n 0, 1) := by decide +kernel
theorem dX1_place_99 : decode cX1_place 99 = .ok (.iload 4, 2) := by decide +kernel
theorem dX1_place_101 : decode cX1_place 101 = .ok (.iload 8, 2) := by decide +kernel
theorem dX1_place_103 : decode cX1_place 103 = .ok (.iload 5, 2) := by decide +kernel
theorem dX1_place_105 : decode cX1_place 105 = .ok (.iadd, 1) := by decide +kernel
theorem dX1_place_106 : decode cX1_place 106 = .ok (.invokevirtual 54, 3) := by decide +kernel
theorem dX1_place_109 : decode cX1_place 109 = .ok (.invokevirtual 61, 3) := by decide +kernel
theorem dX1_place_112 : decode cX1_place 112 = .ok (.goto 31, 3) := by decide +kernel
theorem dX1_place_115 : decode cX1_place 115 = .ok (.aload_n 0, 1) := by decide +kernel
theorem dX1_place_116 : decode cX1_place 116 = .ok (.iload 8, 2) := by decide +kernel
theorem dX1_place_118 : decode cX1_place 118 = .ok (.aload_n 1, 1) := by decide +kernel
theorem dX1_place_119 : decode cX1_place 119 = .ok (.getstatic 149, 3) := by decide +kernel
theorem dX1_place_122 : decode cX1_place 122 = .ok (.if_acmp .ne 16, 3) := by decide +kernel
theorem dX1_place_125 : decode cX1_place 125 = .ok (.aload_n 0, 1) := by decide +kernel
theorem dX1_place_126 : decode cX1_place 126 = .ok (.iload_n 2, 1) := by decide +kernel
theorem dX1_place_127 : decode cX1_place 127 = .ok (.iload 8, 2) := by decide +kernel
theorem dX1_place_129 : decode cX1_place 129 = .ok (.iload 6, 2) := by decide +kernel
theorem dX1_place_131 : decode cX1_place 131 = .ok (.isub, 1) := by decide +kernel
theorem dX1_place_132 : decode cX1_place 132 = .ok (.invokevirtual 54, 3) := by decide +kernel
theorem dX1_place_135 : decode cX1_place 135 = .ok (.goto 5, 3) := by decide +kernel
theorem dX1_place_138 : decode cX1_place 138 = .ok (.iload 7, 2) := by decide +kernel
theorem dX1_place_140 : decode cX1_place 140 = .ok (.invokevirtual 61, 3) := by decide +kernel
theorem dX1_place_143 : decode cX1_place 143 = .ok (.iinc 8 1, 3) := by decide +kernel
theorem dX1_place_146 : decode cX1_place 146 = .ok (.goto (-74), 3) := by decide +kernel
theorem dX1_place_149 : decode cX1_place 149 = .ok (.return_, 1) := by decide +kernel
theorem dX1_reach_0 : decode cX1_reach 0 = .ok (.aload_n 0, 1) := by decide +kernel
theorem dX1_reach_1 : decode cX1_reach 1 = .ok (.iload_n 2, 1) := by decide +kernel
theorem dX1_reach_2 : decode cX1_reach 2 = .ok (.invokevirtual 110, 3) := by decide +kernel
theorem dX1_reach_5 : decode cX1_reach 5 = .ok (.iconst 2, 1) := by decide +kernel
theorem dX1_reach_6 : decode cX1_reach 6 = .ok (.idiv, 1) := by decide +kernel
theorem dX1_reach_7 : decode cX1_reach 7 = .ok (.istore 5, 2) := by decide +kernel
theorem dX1_reach_9 : decode cX1_reach 9 = .ok (.aload_n 0, 1) := by decide +kernel
theorem dX1_reach_10 : decode cX1_reach 10 = .ok (.iload_n 3, 1) := by decide +kernel
theorem dX1_reach_11 : decode cX1_reach 11 = .ok (.iconst 0, 1) := by decide +kernel
theorem dX1_reach_12 : decode cX1_reach 12 = .ok (.invokevirtual 54, 3) := by decide +kernel
theorem dX1_reach_15 : decode cX1_reach 15 = .ok (.istore 6, 2) := by decide +kernel
theorem dX1_reach_17 : decode cX1_reach 17 = .ok (.iconst 0, 1) := by decide +kernel
theorem dX1_reach_18 : decode cX1_reach 18 = .ok (.istore 7, 2) := by decide +kernel
theorem dX1_reach_20 : decode cX1_reach 20 = .ok (.iload 7, 2) := by decide +kernel
theorem dX1_reach_22 : decode cX1_reach 22 = .ok (.iload 5, 2) := by decide +kernel
theorem dX1_reach_24 : decode cX1_reach 24 = .ok (.if_icmp .ge 112, 3) := by decide +kernel
theorem dX1_reach_27 : decode cX1_reach 27 = .ok (.aload_n 0, 1) := by decide +kernel
theorem dX1_reach_28 : decode cX1_reach 28 = .ok (.iload_n 2, 1) := by decide +kernel
theorem dX1_reach_29 : decode cX1_reach 29 = .ok (.iload 7, 2) := by decide +kernel
theorem dX1_reach_31 : decode cX1_reach 31 = .ok (.invokevirtual 54, 3) := by decide +kernel
theorem dX1_reach_34 : decode cX1_reach 34 = .ok (.istore 8, 2) := by decide +kernel
theorem dX1_reach_36 : decode cX1_reach 36 = .ok (.aload_n 0, 1) := by decide +kernel
theorem dX1_reach_37 : decode cX1_reach 37 = .ok (.iload_n 2, 1) := by decide +kernel
theorem dX1_reach_38 : decode cX1_reach 38 = .ok (.iload 5, 2) := by decide +kernel
theorem dX1_reach_40 : decode cX1_reach 40 = .ok (.iload 7, 2) := by decide +kernel
theorem dX1_reach_42 : decode cX1_reach 42 = .ok (.iadd, 1) := by decide +kernel
theorem dX1_reach_43 : decode cX1_reach 43 = .ok (.invokevirtual 54, 3) := by decide +kernel
theorem dX1_reach_46 : decode cX1_reach 46 = .ok (.istore 9, 2) := by decide +kernel
theorem dX1_reach_48 : decode cX1_reach 48 = .ok (.aload_n 1, 1) := by decide +kernel
theorem dX1_reach_49 : decode cX1_reach 49 = .ok (.getstatic 158, 3) := by decide +kernel
theorem dX1_reach_52 : decode cX1_reach 52 = .ok (.if_acmp .ne 25, 3) := by decide +kernel
theorem dX1_reach_55 : decode cX1_reach 55 = .ok (.aload_n 0, 1) := by decide +kernel
theorem dX1_reach_56 : decode cX1_reach 56 = .ok (.iload 7, 2) := by decide +kernel
theorem dX1_reach_58 : decode cX1_reach 58 = .ok (.aload_n 0, 1) := by decide +kernel
theorem dX1_reach_59 : decode cX1_reach 59 = .ok (.getfield 28, 3) := by decide +kernel
theorem dX1_reach_62 : decode cX1_reach 62 = .ok (.iload 6, 2) := by decide +kernel
theorem dX1_reach_64 : decode cX1_reach 64 = .ok (.iload 9, 2) := by decide +kernel
theorem dX1_reach_66 : decode cX1_reach 66 = .ok (.iload 8, 2) := by decide +kernel
theorem dX1_reach_68 : decode cX1_reach 68 = .ok (.invokevirtual 136, 3) := by decide +kernel
theorem dX1_reach_71 : decode cX1_reach 71 = .ok (.invokevirtual 61, 3) := by decide +kernel
theorem dX1_reach_74 : decode cX1_reach 74 = .ok (.goto 56, 3) := by decide +kernel
theorem dX1_reach_77 : decode cX1_reach 77 = .ok (.aload_n 0, 1) := by decide +kernel
theorem dX1_reach_78 : decode cX1_reach 78 = .ok (.iload 7, 2) := by decide +kernel
theorem dX1_reach_80 : decode cX1_reach 80 = .ok (.aload_n 0, 1) := by decide +kernel
theorem dX1_reach_81 : decode cX1_reach 81 = .ok (.getfield 28, 3) := by decide +kernel
theorem dX1_reach_84 : decode cX1_reach 84 = .ok (.iload 6, 2) := by decide +kernel
theorem dX1_reach_86 : decode cX1_reach 86 = .ok (.iload 8, 2) := by decide +kernel
theorem dX1_reach_88 : decode cX1_reach 88 = .ok (.aload_n 0, 1) := by decide +kernel
theorem dX1_reach_89 : decode cX1_reach 89 = .ok (.iload 4, 2) := by decide +kernel
theorem dX1_reach_91 : decode cX1_reach 91 = .ok (.iload 7, 2) := by decide +kernel
theorem dX1_reach_93 : decode cX1_reach 93 = .ok (.invokevirtual 54, 3) := by decide +kernel
theorem dX1_reach_96 : decode cX1_reach 96 = .ok (.invokevirtual 136, 3) := by decide +kernel
theorem dX1_reach_99 : decode cX1_reach 99 = .ok (.invokevirtual 61, 3) := by decide +kernel
theorem dX1_reach_102 : decode cX1_reach 102 = .ok (.aload_n 0, 1) := by decide +kernel
theorem dX1_reach_103 : decode cX1_reach 103 = .ok (.iload 5, 2) := by decide +kernel
theorem dX1_reach_105 : decode cX1_reach 105 = .ok (.iload 7, 2) := by decide +kernel
theorem dX1_reach_107 : decode cX1_reach 107 = .ok (.iadd, 1) := by decide +kernel
theorem dX1_reach_108 : decode cX1_reach 108 = .ok (.aload_n 0, 1) := by decide +kernel
theorem dX1_reach_109 : decode cX1_reach 109 = .ok (.getfield 28, 3) := by decide +kernel
theorem dX1_reach_112 : decode cX1_reach 112 = .ok (.iload 6, 2) := by decide +kernel
theorem dX1_reach_114 : decode cX1_reach 114 = .ok (.aload_n 0, 1) := by decide +kernel
theorem dX1_reach_115 : decode cX1_reach 115 = .ok (.iload 4, 2) := by decide +kernel
theorem dX1_reach_117 : decode cX1_reach 117 = .ok (.iload 7, 2) := by decide +kernel
theorem dX1_reach_119 : decode cX1_reach 119 = .ok (.invokevirtual 54, 3) := by decide +kernel
theorem dX1_reach_122 : decode cX1_reach 122 = .ok (.iload 9, 2) := by decide +kernel
theorem dX1_reach_124 : decode cX1_reach 124 = .ok (.invokevirtual 136, 3) := by decide +kernel
theorem dX1_reach_127 : decode cX1_reach 127 = .ok (.invokevirtual 61, 3) := by decide +kernel
theorem dX1_reach_130 : decode cX1_reach 130 = .ok (.iinc 7 1, 3) := by decide +kernel
theorem dX1_reach_133 : decode cX1_reach 133 = .ok (.goto (-113), 3) := by decide +kernel
theorem dX1_reach_136 : decode cX1_reach 136 = .ok (.return_, 1) := by decide +kernel
theorem dX1_calculate_0 : decode cX1_calculate 0 = .ok (.aload_n 0, 1) := by decide +kernel
theorem dX1_calculate_1 : decode cX1_calculate 1 = .ok (.iload_n 2, 1) := by decide +kernel
theorem dX1_calculate_2 : decode cX1_calculate 2 = .ok (.invokevirtual 110, 3) := by decide +kernel
theorem dX1_calculate_5 : decode cX1_calculate 5 = .ok (.iconst 4, 1) := by decide +kernel
theorem dX1_calculate_6 : decode cX1_calculate 6 = .ok (.invokestatic 161, 3) := by decide +kernel
theorem dX1_calculate_9 : decode cX1_calculate 9 = .ok (.istore 4, 2) := by decide +kernel
theorem dX1_calculate_11 : decode cX1_calculate 11 = .ok (.getstatic 116, 3) := by decide +kernel
theorem dX1_calculate_14 : decode cX1_calculate 14 = .ok (.aload_n 1, 1) := by decide +kernel
theorem dX1_calculate_15 : decode cX1_calculate 15 = .ok (.invokevirtual 121, 3) := by decide +kernel
theorem dX1_calculate_18 : decode cX1_calculate 18 = .ok (.iaload, 1) := by decide +kernel
theorem dX1_calculate_19 : decode cX1_calculate 19 = .ok (.tableswitch 160 8 16 #[49, 75, 101, 127, 138, 138, 148, 148, 148], 49) := by decide +kernel
theorem dX1_calculate_68 : decode cX1_calculate 68 = .ok (.aload_n 0, 1) := by decide +kernel
theorem dX1_calculate_69 : decode cX1_calculate 69 = .ok (.iconst (-1), 1) := by decide +kernel
theorem dX1_calculate_70 : decode cX1_calculate 70 = .ok (.iload 4, 2) := by decide +kernel
theorem dX1_calculate_72 : decode cX1_calculate 72 = .ok (.invokevirtual 166, 3) := by decide +kernel
theorem dX1_calculate_75 : decode cX1_calculate 75 = .ok (.aload_n 0, 1) := by decide +kernel
theorem dX1_calculate_76 : decode cX1_calculate 76 = .ok (.iload_n 2, 1) := by decide +kernel
theorem dX1_calculate_77 : decode cX1_calculate 77 = .ok (.iload 4, 2) := by decide +kernel
theorem dX1_calculate_79 : decode cX1_calculate 79 = .ok (.iconst 1, 1) := by decide +kernel
theorem dX1_calculate_80 : decode cX1_calculate 80 = .ok (.invokevirtual 169, 3) := by decide +kernel
theorem dX1_calculate_83 : decode cX1_calculate 83 = .ok (.aload_n 0, 1) := by decide +kernel
theorem dX1_calculate_84 : decode cX1_calculate 84 = .ok (.iload 4, 2) := by decide +kernel
theorem dX1_calculate_86 : decode cX1_calculate 86 = .ok (.iconst 0, 1) := by decide +kernel
theorem dX1_calculate_87 : decode cX1_calculate 87 = .ok (.invokevirtual 173, 3) := by decide +kernel
theorem dX1_calculate_90 : decode cX1_calculate 90 = .ok (.pop, 1) := by decide +kernel
theorem dX1_calculate_91 : decode cX1_calculate 91 = .ok (.goto 97, 3) := by decide +kernel
theorem dX1_calculate_94 : decode cX1_calculate 94 = .ok (.aload_n 0, 1) := by decide +kernel
theorem dX1_calculate_95 : decode cX1_calculate 95 = .ok (.iload_n 2, 1) := by decide +kernel
theorem dX1_calculate_96 : decode cX1_calculate 96 = .ok (.iload 4, 2) := by decide +kernel
theorem dX1_calculate_98 : decode cX1_calculate 98 = .ok (.invokevirtual 166, 3) := by decide +kernel
theorem dX1_calculate_101 : decode cX1_calculate 101 = .ok (.aload_n 0, 1) := by decide +kernel
theorem dX1_calculate_102 : decode cX1_calculate 102 = .ok (.iload_n 3, 1) := by decide +kernel
theorem dX1_calculate_103 : decode cX1_calculate 103 = .ok (.iload 4, 2) := by decide +kernel
theorem dX1_calculate_105 : decode cX1_calculate 105 = .ok (.iconst 0, 1) := by decide +kernel
theorem dX1_calculate_106 : decode cX1_calculate 106 = .ok (.invokevirtual 169, 3) := by decide +kernel
theorem dX1_calculate_109 : decode cX1_calculate 109 = .ok (.aload_n 0, 1) := by decide +kernel
theorem dX1_calculate_110 : decode cX1_calculate 110 = .ok (.iload 4, 2) := by decide +kernel
theorem dX1_calculate_112 : decode cX1_calculate 112 = .ok (.iconst 1, 1) := by decide +kernel
theorem dX1_calculate_113 : decode cX1_calculate 113 = .ok (.invokevirtual 173, 3) := by decide +kernel
theorem dX1_calculate_116 : decode cX1_calculate 116 = .ok (.pop, 1) := by decide +kernel
theorem dX1_calculate_117 : decode cX1_calculate 117 = .ok (.goto 71, 3) := by decide +kernel
theorem dX1_calculate_120 : decode cX1_calculate 120 = .ok (.aload_n 0, 1) := by decide +kernel
theorem dX1_calculate_121 : decode cX1_calculate 121 = .ok (.iload_n 2, 1) := by decide +kernel
theorem dX1_calculate_122 : decode cX1_calculate 122 = .ok (.iload 4, 2) := by decide +kernel
theorem dX1_calculate_124 : decode cX1_calculate 124 = .ok (.invokevirtual 166, 3) := by decide +kernel
theorem dX1_calculate_127 : decode cX1_calculate 127 = .ok (.aload_n 0, 1) := by decide +kernel
theorem dX1_calculate_128 : decode cX1_calculate 128 = .ok (.iload_n 3, 1) := by decide +kernel
theorem dX1_calculate_129 : decode cX1_calculate 129 = .ok (.iload 4, 2) := by decide +kernel
theorem dX1_calculate_131 : decode cX1_calculate 131 = .ok (.iconst 1, 1) := by decide +kernel
theorem dX1_calculate_132 : decode cX1_calculate 132 = .ok (.invokevirtual 169, 3) := by decide +kernel
theorem dX1_calculate_135 : decode cX1_calculate 135 = .ok (.aload_n 0, 1) := by decide +kernel
theorem dX1_calculate_136 : decode cX1_calculate 136 = .ok (.iload 4, 2) := by decide +kernel
theorem dX1_calculate_138 : decode cX1_calculate 138 = .ok (.iconst 0, 1) := by decide +kernel
theorem dX1_calculate_139 : decode cX1_calculate 139 = .ok (.invokevirtual 173, 3) := by decide +kernel
theorem dX1_calculate_142 : decode cX1_calculate 142 = .ok (.pop, 1) := by decide +kernel
theorem dX1_calculate_143 : decode cX1_calculate 143 = .ok (.goto 45, 3) := by decide +kernel
theorem dX1_calculate_146 : decode cX1_calculate 146 = .ok (.aload_n 0, 1) := by decide +kernel
theorem dX1_calculate_147 : decode cX1_calculate 147 = .ok (.iload_n 2, 1) := by decide +kernel
theorem dX1_calculate_148 : decode cX1_calculate 148 = .ok (.iload_n 3, 1) := by decide +kernel
theorem dX1_calculate_149 : decode cX1_calculate 149 = .ok (.iload 4, 2) := by decide +kernel
theorem dX1_calculate_151 : decode cX1_calculate 151 = .ok (.invokevirtual 176, 3) := by decide +kernel
theorem dX1_calculate_154 : decode cX1_calculate 154 = .ok (.goto 34, 3) := by decide +kernel
theorem dX1_calculate_157 : decode cX1_calculate 157 = .ok (.aload_n 0, 1) := by decide +kernel
theorem dX1_calculate_158 : decode cX1_calculate 158 = .ok (.aload_n 1, 1) := by decide +kernel
theorem dX1_calculate_159 : decode cX1_calculate 159 = .ok (.iload_n 2, 1) := by decide +kernel
theorem dX1_calculate_160 : decode cX1_calculate 160 = .ok (.iload_n 3, 1) := by decide +kernel
theorem dX1_calculate_161 : decode cX1_calculate 161 = .ok (.iload 4, 2) := by decide +kernel
theorem dX1_calculate_163 : decode cX1_calculate 163 = .ok (.invokevirtual 179, 3) := by decide +kernel
theorem dX1_calculate_166 : decode cX1_calculate 166 = .ok (.return_, 1) := by decide +kernel
theorem dX1_calculate_167 : decode cX1_calculate 167 = .ok (.aload_n 0, 1) := by decide +kernel
theorem dX1_calculate_168 : decode cX1_calculate 168 = .ok (.aload_n 1, 1) := by decide +kernel
theorem dX1_calculate_169 : decode cX1_calculate 169 = .ok (.iload_n 2, 1) := by decide +kernel
theorem dX1_calculate_170 : decode cX1_calculate 170 = .ok (.iload_n 3, 1) := by decide +kernel
theorem dX1_calculate_171 : decode cX1_calculate 171 = .ok (.iload 4, 2) := by decide +kernel
theorem dX1_calculate_173 : decode cX1_calculate 173 = .ok (.invokevirtual 182, 3) := by decide +kernel
theorem dX1_calculate_176 : decode cX1_calculate 176 = .ok (.goto 12, 3) := by decide +kernel
theorem dX1_calculate_179 : decode cX1_calculate 179 = .ok (.aload_n 0, 1) := by decide +kernel
theorem dX1_calculate_180 : decode cX1_calculate 180 = .ok (.aload_n 1, 1) := by decide +kernel
theorem dX1_calculate_181 : decode cX1_calculate 181 = .ok (.iload_n 2, 1) := by decide +kernel
theorem dX1_calculate_182 : decode cX1_calculate 182 = .ok (.iload_n 3, 1) := by decide +kernel
theorem dX1_calculate_183 : decode cX1_calculate 183 = .ok (.iload 4, 2) := by decide +kernel
theorem dX1_calculate_185 : decode cX1_calculate 185 = .ok (.invokevirtual 185, 3) := by decide +kernel
theorem dX1_calculate_188 : decode cX1_calculate 188 = .ok (.iconst 0, 1) := by decide +kernel
theorem dX1_calculate_189 : decode cX1_calculate 189 = .ok (.istore 5, 2) := by decide +kernel
theorem dX1_calculate_191 : decode cX1_calculate 191 = .ok (.iload 5, 2) := by decide +kernel
theorem dX1_calculate_193 : decode cX1_calculate 193 = .ok (.iload 4, 2) := by decide +kernel
theorem dX1_calculate_195 : decode cX1_calculate 195 = .ok (.if_icmp .ge 22, 3) := by decide +kernel
theorem dX1_calculate_198 : decode cX1_calculate 198 = .ok (.aload_n 0, 1) := by decide +kernel
theorem dX1_calculate_199 : decode cX1_calculate 199 = .ok (.iload 5, 2) := by decide +kernel
theorem dX1_calculate_201 : decode cX1_calculate 201 = .ok (.aload_n 0, 1) := by decide +kernel
theorem dX1_calculate_202 : decode cX1_calculate 202 = .ok (.getfield 21, 3) := by decide +kernel
theorem dX1_calculate_205 : decode cX1_calculate 205 = .ok (.iload 5, 2) := by decide +kernel
theorem dX1_calculate_207 : decode cX1_calculate 207 = .ok (.iaload, 1) := by decide +kernel
theorem dX1_calculate_208 : decode cX1_calculate 208 = .ok (.invokevirtual 61, 3) := by decide +kernel
theorem dX1_calculate_211 : decode cX1_calculate 211 = .ok (.iinc 5 1, 3) := by decide +kernel
theorem dX1_calculate_214 : decode cX1_calculate 214 = .ok (.goto (-23), 3) := by decide +kernel
theorem dX1_calculate_217 : decode cX1_calculate 217 = .ok (.return_, 1) := by decide +kernel
theorem dX1_mix_0 : decode cX1_mix 0 = .ok (.iconst 0, 1) := by decide +kernel
theorem dX1_mix_1 : decode cX1_mix 1 = .ok (.istore 5, 2) := by decide +kernel
theorem dX1_mix_3 : decode cX1_mix 3 = .ok (.iload 5, 2) := by decide +kernel
theorem dX1_mix_5 : decode cX1_mix 5 = .ok (.iload 4, 2) := by decide +kernel
theorem dX1_mix_7 : decode cX1_mix 7 = .ok (.if_icmp .ge 152, 3) := by decide +kernel
theorem dX1_mix_10 : decode cX1_mix 10 = .ok (.getstatic 116, 3) := by decide +kernel
theorem dX1_mix_13 : decode cX1_mix 13 = .ok (.aload_n 1, 1) := by decide +kernel
theorem dX1_mix_14 : decode cX1_mix 14 = .ok (.invokevirtual 121, 3) := by decide +kernel
theorem dX1_mix_17 : decode cX1_mix 17 = .ok (.iaload, 1) := by decide +kernel
theorem dX1_mix_18 : decode cX1_mix 18 = .ok (.tableswitch 119 17 19 #[26, 57, 88], 26) := by decide +kernel
theorem dX1_mix_44 : decode cX1_mix 44 = .ok (.aload_n 0, 1) := by decide +kernel
theorem dX1_mix_45 : decode cX1_mix 45 = .ok (.getfield 21, 3) := by decide +kernel
theorem dX1_mix_48 : decode cX1_mix 48 = .ok (.iload 5, 2) := by decide +kernel
theorem dX1_mix_50 : decode cX1_mix 50 = .ok (.aload_n 0, 1) := by decide +kernel
theorem dX1_mix_51 : decode cX1_mix 51 = .ok (.getfield 28, 3) := by decide +kernel
theorem dX1_mix_54 : decode cX1_mix 54 = .ok (.aload_n 0, 1) := by decide +kernel
theorem dX1_mix_55 : decode cX1_mix 55 = .ok (.iload_n 2, 1) := by decide +kernel
theorem dX1_mix_56 : decode cX1_mix 56 = .ok (.iload 5, 2) := by decide +kernel
theorem dX1_mix_58 : decode cX1_mix 58 = .ok (.invokevirtual 54, 3) := by decide +kernel
theorem dX1_mix_61 : decode cX1_mix 61 = .ok (.aload_n 0, 1) := by decide +kernel
theorem dX1_mix_62 : decode cX1_mix 62 = .ok (.iload_n 3, 1) := by decide +kernel
theorem dX1_mix_63 : decode cX1_mix 63 = .ok (.iload 5, 2) := by decide +kernel
theorem dX1_mix_65 : decode cX1_mix 65 = .ok (.invokevirtual 54, 3) := by decide +kernel
theorem dX1_mix_68 : decode cX1_mix 68 = .ok (.invokevirtual 125, 3) := by decide +kernel
theorem dX1_mix_71 : decode cX1_mix 71 = .ok (.iastore, 1) := by decide +kernel
theorem dX1_mix_72 : decode cX1_mix 72 = .ok (.goto 81, 3) := by decide +kernel
theorem dX1_mix_75 : decode cX1_mix 75 = .ok (.aload_n 0, 1) := by decide +kernel
theorem dX1_mix_76 : decode cX1_mix 76 = .ok (.getfield 21, 3) := by decide +kernel
theorem dX1_mix_79 : decode cX1_mix 79 = .ok (.iload 5, 2) := by decide +kernel
theorem dX1_mix_81 : decode cX1_mix 81 = .ok (.aload_n 0, 1) := by decide +kernel
theorem dX1_mix_82 : decode cX1_mix 82 = .ok (.getfield 28, 3) := by decide +kernel
theorem dX1_mix_85 : decode cX1_mix 85 = .ok (.aload_n 0, 1) := by decide +kernel
theorem dX1_mix_86 : decode cX1_mix 86 = .ok (.iload_n 2, 1) := by decide +kernel
theorem dX1_mix_87 : decode cX1_mix 87 = .ok (.iload 5, 2) := by decide +kernel
theorem dX1_mix_89 : decode cX1_mix 89 = .ok (.invokevirtual 54, 3) := by decide +kernel
theorem dX1_mix_92 : decode cX1_mix 92 = .ok (.aload_n 0, 1) := by decide +kernel
theorem dX1_mix_93 : decode cX1_mix 93 = .ok (.iload_n 3, 1) := by decide +kernel
theorem dX1_mix_94 : decode cX1_mix 94 = .ok (.iload 5, 2) := by decide +kernel
theorem dX1_mix_96 : decode cX1_mix 96 = .ok (.invokevirtual 54, 3) := by decide +kernel
theorem dX1_mix_99 : decode cX1_mix 99 = .ok (.invokevirtual 130, 3) := by decide +kernel
theorem dX1_mix_102 : decode cX1_mix 102 = .ok (.iastore, 1) := by decide +kernel
theorem dX1_mix_103 : decode cX1_mix 103 = .ok (.goto 50, 3) := by decide +kernel
theorem dX1_mix_106 : decode cX1_mix 106 = .ok (.aload_n 0, 1) := by decide +kernel
theorem dX1_mix_107 : decode cX1_mix 107 = .ok (.getfield 21, 3) := by decide +kernel
theorem dX1_mix_110 : decode cX1_mix 110 = .ok (.iload 5, 2) := by decide +kernel
theorem dX1_mix_112 : decode cX1_mix 112 = .ok (.aload_n 0, 1) := by decide +kernel
theorem dX1_mix_113 : decode cX1_mix 113 = .ok (.getfield 28, 3) := by decide +kernel
theorem dX1_mix_116 : decode cX1_mix 116 = .ok (.aload_n 0, 1) := by decide +kernel
theorem dX1_mix_117 : decode cX1_mix 117 = .ok (.iload_n 2, 1) := by decide +kernel
theorem dX1_mix_118 : decode cX1_mix 118 = .ok (.iload 5, 2) := by decide +kernel
theorem dX1_mix_120 : decode cX1_mix 120 = .ok (.invokevirtual 54, 3) := by decide +kernel
theorem dX1_mix_123 : decode cX1_mix 123 = .ok (.aload_n 0, 1) := by decide +kernel
theorem dX1_mix_124 : decode cX1_mix 124 = .ok (.iload_n 3, 1) := by decide +kernel
theorem dX1_mix_125 : decode cX1_mix 125 = .ok (.iload 5, 2) := by decide +kernel
theorem dX1_mix_127 : decode cX1_mix 127 = .ok (.invokevirtual 54, 3) := by decide +kernel
theorem dX1_mix_130 : decode cX1_mix 130 = .ok (.invokevirtual 133, 3) := by decide +kernel
theorem dX1_mix_133 : decode cX1_mix 133 = .ok (.iastore, 1) := by decide +kernel
theorem dX1_mix_134 : decode cX1_mix 134 = .ok (.goto 19, 3) := by decide +kernel
theorem dX1_mix_137 : decode cX1_mix 137 = .ok (.aload_n 0, 1) := by decide +kernel
theorem dX1_mix_138 : decode cX1_mix 138 = .ok (.getfield 21, 3) := by decide +kernel
theorem dX1_mix_141 : decode cX1_mix 141 = .ok (.iload 5, 2) := by decide +kernel
theorem dX1_mix_143 : decode cX1_mix 143 = .ok (.aload_n 0, 1) := by decide +kernel
theorem dX1_mix_144 : decode cX1_mix 144 = .ok (.iload_n 2, 1) := by decide +kernel
theorem dX1_mix_145 : decode cX1_mix 145 = .ok (.iload 5, 2) := by decide +kernel
theorem dX1_mix_147 : decode cX1_mix 147 = .ok (.invokevirtual 54, 3) := by decide +kernel
theorem dX1_mix_150 : decode cX1_mix 150 = .ok (.iconst 1, 1) := by decide +kernel
theorem dX1_mix_151 : decode cX1_mix 151 = .ok (.ixor, 1) := by decide +kernel
theorem dX1_mix_152 : decode cX1_mix 152 = .ok (.iastore, 1) := by decide +kernel
theorem dX1_mix_153 : decode cX1_mix 153 = .ok (.iinc 5 1, 3) := by decide +kernel
theorem dX1_mix_156 : decode cX1_mix 156 = .ok (.goto (-153), 3) := by decide +kernel
theorem dX1_mix_159 : decode cX1_mix 159 = .ok (.return_, 1) := by decide +kernel
theorem dX1_loadLeft_0 : decode cX1_loadLeft 0 = .ok (.iconst 0, 1) := by decide +kernel
theorem dX1_loadLeft_1 : decode cX1_loadLeft 1 = .ok (.istore_n 3, 1) := by decide +kernel
theorem dX1_loadLeft_2 : decode cX1_loadLeft 2 = .ok (.iload_n 3, 1) := by decide +kernel
theorem dX1_loadLeft_3 : decode cX1_loadLeft 3 = .ok (.iload_n 2, 1) := by decide +kernel
theorem dX1_loadLeft_4 : decode cX1_loadLeft 4 = .ok (.if_icmp .ge 21, 3) := by decide +kernel
theorem dX1_loadLeft_7 : decode cX1_loadLeft 7 = .ok (.aload_n 0, 1) := by decide +kernel
theorem dX1_loadLeft_8 : decode cX1_loadLeft 8 = .ok (.getfield 15, 3) := by decide +kernel
theorem dX1_loadLeft_11 : decode cX1_loadLeft 11 = .ok (.iload_n 3, 1) := by decide +kernel
theorem dX1_loadLeft_12 : decode cX1_loadLeft 12 = .ok (.aload_n 0, 1) := by decide +kernel
theorem dX1_loadLeft_13 : decode cX1_loadLeft 13 = .ok (.iload_n 1, 1) := by decide +kernel
theorem dX1_loadLeft_14 : decode cX1_loadLeft 14 = .ok (.iload_n 3, 1) := by decide +kernel
theorem dX1_loadLeft_15 : decode cX1_loadLeft 15 = .ok (.invokevirtual 54, 3) := by decide +kernel
theorem dX1_loadLeft_18 : decode cX1_loadLeft 18 = .ok (.iastore, 1) := by decide +kernel
theorem dX1_loadLeft_19 : decode cX1_loadLeft 19 = .ok (.iinc 3 1, 3) := by decide +kernel
theorem dX1_loadLeft_22 : decode cX1_loadLeft 22 = .ok (.goto (-20), 3) := by decide +kernel
theorem dX1_loadLeft_25 : decode cX1_loadLeft 25 = .ok (.return_, 1) := by decide +kernel
theorem dX1_loadRight_0 : decode cX1_loadRight 0 = .ok (.iconst 0, 1) := by decide +kernel
theorem dX1_loadRight_1 : decode cX1_loadRight 1 = .ok (.istore 4, 2) := by decide +kernel
theorem dX1_loadRight_3 : decode cX1_loadRight 3 = .ok (.iload 4, 2) := by decide +kernel
theorem dX1_loadRight_5 : decode cX1_loadRight 5 = .ok (.iload_n 2, 1) := by decide +kernel
theorem dX1_loadRight_6 : decode cX1_loadRight 6 = .ok (.if_icmp .ge 39, 3) := by decide +kernel
theorem dX1_loadRight_9 : decode cX1_loadRight 9 = .ok (.aload_n 0, 1) := by decide +kernel
theorem dX1_loadRight_10 : decode cX1_loadRight 10 = .ok (.getfield 18, 3) := by decide +kernel
theorem dX1_loadRight_13 : decode cX1_loadRight 13 = .ok (.iload 4, 2) := by decide +kernel
theorem dX1_loadRight_15 : decode cX1_loadRight 15 = .ok (.iload_n 3, 1) := by decide +kernel
theorem dX1_loadRight_16 : decode cX1_loadRight 16 = .ok (.ifCond .eq 15, 3) := by decide +kernel
theorem dX1_loadRight_19 : decode cX1_loadRight 19 = .ok (.aload_n 0, 1) := by decide +kernel
theorem dX1_loadRight_20 : decode cX1_loadRight 20 = .ok (.iload_n 1, 1) := by decide +kernel
theorem dX1_loadRight_21 : decode cX1_loadRight 21 = .ok (.iload 4, 2) := by decide +kernel
theorem dX1_loadRight_23 : decode cX1_loadRight 23 = .ok (.invokevirtual 54, 3) := by decide +kernel
theorem dX1_loadRight_26 : decode cX1_loadRight 26 = .ok (.iconst 1, 1) := by decide +kernel
theorem dX1_loadRight_27 : decode cX1_loadRight 27 = .ok (.ixor, 1) := by decide +kernel
theorem dX1_loadRight_28 : decode cX1_loadRight 28 = .ok (.goto 10, 3) := by decide +kernel
theorem dX1_loadRight_31 : decode cX1_loadRight 31 = .ok (.aload_n 0, 1) := by decide +kernel
theorem dX1_loadRight_32 : decode cX1_loadRight 32 = .ok (.iload_n 1, 1) := by decide +kernel
theorem dX1_loadRight_33 : decode cX1_loadRight 33 = .ok (.iload 4, 2) := by decide +kernel
theorem dX1_loadRight_35 : decode cX1_loadRight 35 = .ok (.invokevirtual 54, 3) := by decide +kernel
theorem dX1_loadRight_38 : decode cX1_loadRight 38 = .ok (.iastore, 1) := by decide +kernel
theorem dX1_loadRight_39 : decode cX1_loadRight 39 = .ok (.iinc 4 1, 3) := by decide +kernel
theorem dX1_loadRight_42 : decode cX1_loadRight 42 = .ok (.goto (-39), 3) := by decide +kernel
theorem dX1_loadRight_45 : decode cX1_loadRight 45 = .ok (.return_, 1) := by decide +kernel
theorem dX1_add_0 : decode cX1_add 0 = .ok (.iload_n 2, 1) := by decide +kernel
theorem dX1_add_1 : decode cX1_add 1 = .ok (.istore_n 3, 1) := by decide +kernel
theorem dX1_add_2 : decode cX1_add 2 = .ok (.iconst 0, 1) := by decide +kernel
theorem dX1_add_3 : decode cX1_add 3 = .ok (.istore 4, 2) := by decide +kernel
theorem dX1_add_5 : decode cX1_add 5 = .ok (.iload 4, 2) := by decide +kernel
theorem dX1_add_7 : decode cX1_add 7 = .ok (.iload_n 1, 1) := by decide +kernel
theorem dX1_add_8 : decode cX1_add 8 = .ok (.if_icmp .ge 67, 3) := by decide +kernel
theorem dX1_add_11 : decode cX1_add 11 = .ok (.aload_n 0, 1) := by decide +kernel
theorem dX1_add_12 : decode cX1_add 12 = .ok (.getfield 28, 3) := by decide +kernel
theorem dX1_add_15 : decode cX1_add 15 = .ok (.aload_n 0, 1) := by decide +kernel
theorem dX1_add_16 : decode cX1_add 16 = .ok (.getfield 15, 3) := by decide +kernel
theorem dX1_add_19 : decode cX1_add 19 = .ok (.iload 4, 2) := by decide +kernel
theorem dX1_add_21 : decode cX1_add 21 = .ok (.iaload, 1) := by decide +kernel
theorem dX1_add_22 : decode cX1_add 22 = .ok (.aload_n 0, 1) := by decide +kernel
theorem dX1_add_23 : decode cX1_add 23 = .ok (.getfield 18, 3) := by decide +kernel
theorem dX1_add_26 : decode cX1_add 26 = .ok (.iload 4, 2) := by decide +kernel
theorem dX1_add_28 : decode cX1_add 28 = .ok (.iaload, 1) := by decide +kernel
theorem dX1_add_29 : decode cX1_add 29 = .ok (.invokevirtual 133, 3) := by decide +kernel
theorem dX1_add_32 : decode cX1_add 32 = .ok (.istore 5, 2) := by decide +kernel
theorem dX1_add_34 : decode cX1_add 34 = .ok (.aload_n 0, 1) := by decide +kernel
theorem dX1_add_35 : decode cX1_add 35 = .ok (.getfield 21, 3) := by decide +kernel
theorem dX1_add_38 : decode cX1_add 38 = .ok (.iload 4, 2) := by decide +kernel
theorem dX1_add_40 : decode cX1_add 40 = .ok (.aload_n 0, 1) := by decide +kernel
theorem dX1_add_41 : decode cX1_add 41 = .ok (.getfield 28, 3) := by decide +kernel
theorem dX1_add_44 : decode cX1_add 44 = .ok (.iload 5, 2) := by decide +kernel
theorem dX1_add_46 : decode cX1_add 46 = .ok (.iload_n 3, 1) := by decide +kernel
theorem dX1_add_47 : decode cX1_add 47 = .ok (.invokevirtual 133, 3) := by decide +kernel
theorem dX1_add_50 : decode cX1_add 50 = .ok (.iastore, 1) := by decide +kernel
theorem dX1_add_51 : decode cX1_add 51 = .ok (.aload_n 0, 1) := by decide +kernel
theorem dX1_add_52 : decode cX1_add 52 = .ok (.getfield 28, 3) := by decide +kernel
theorem dX1_add_55 : decode cX1_add 55 = .ok (.iload 5, 2) := by decide +kernel
theorem dX1_add_57 : decode cX1_add 57 = .ok (.iload_n 3, 1) := by decide +kernel
theorem dX1_add_58 : decode cX1_add 58 = .ok (.aload_n 0, 1) := by decide +kernel
theorem dX1_add_59 : decode cX1_add 59 = .ok (.getfield 15, 3) := by decide +kernel
theorem dX1_add_62 : decode cX1_add 62 = .ok (.iload 4, 2) := by decide +kernel
theorem dX1_add_64 : decode cX1_add 64 = .ok (.iaload, 1) := by decide +kernel
theorem dX1_add_65 : decode cX1_add 65 = .ok (.invokevirtual 136, 3) := by decide +kernel
theorem dX1_add_68 : decode cX1_add 68 = .ok (.istore_n 3, 1) := by decide +kernel
theorem dX1_add_69 : decode cX1_add 69 = .ok (.iinc 4 1, 3) := by decide +kernel
theorem dX1_add_72 : decode cX1_add 72 = .ok (.goto (-67), 3) := by decide +kernel
theorem dX1_add_75 : decode cX1_add 75 = .ok (.iload_n 3, 1) := by decide +kernel
theorem dX1_add_76 : decode cX1_add 76 = .ok (.ireturn, 1) := by decide +kernel
theorem dX1_multiply_0 : decode cX1_multiply 0 = .ok (.aload_n 0, 1) := by decide +kernel
theorem dX1_multiply_1 : decode cX1_multiply 1 = .ok (.iconst (-1), 1) := by decide +kernel
theorem dX1_multiply_2 : decode cX1_multiply 2 = .ok (.iload_n 3, 1) := by decide +kernel
theorem dX1_multiply_3 : decode cX1_multiply 3 = .ok (.invokevirtual 166, 3) := by decide +kernel
theorem dX1_multiply_6 : decode cX1_multiply 6 = .ok (.iconst 0, 1) := by decide +kernel
theorem dX1_multiply_7 : decode cX1_multiply 7 = .ok (.istore 4, 2) := by decide +kernel
theorem dX1_multiply_9 : decode cX1_multiply 9 = .ok (.iload 4, 2) := by decide +kernel
theorem dX1_multiply_11 : decode cX1_multiply 11 = .ok (.iload_n 3, 1) := by decide +kernel
theorem dX1_multiply_12 : decode cX1_multiply 12 = .ok (.if_icmp .ge 102, 3) := by decide +kernel
theorem dX1_multiply_15 : decode cX1_multiply 15 = .ok (.iconst 0, 1) := by decide +kernel
theorem dX1_multiply_16 : decode cX1_multiply 16 = .ok (.istore 5, 2) := by decide +kernel
theorem dX1_multiply_18 : decode cX1_multiply 18 = .ok (.iload 5, 2) := by decide +kernel
theorem dX1_multiply_20 : decode cX1_multiply 20 = .ok (.iload_n 3, 1) := by decide +kernel
theorem dX1_multiply_21 : decode cX1_multiply 21 = .ok (.if_icmp .ge 51, 3) := by decide +kernel
theorem dX1_multiply_24 : decode cX1_multiply 24 = .ok (.aload_n 0, 1) := by decide +kernel
theorem dX1_multiply_25 : decode cX1_multiply 25 = .ok (.getfield 18, 3) := by decide +kernel
theorem dX1_multiply_28 : decode cX1_multiply 28 = .ok (.iload 5, 2) := by decide +kernel
theorem dX1_multiply_30 : decode cX1_multiply 30 = .ok (.iload 5, 2) := by decide +kernel
theorem dX1_multiply_32 : decode cX1_multiply 32 = .ok (.iload 4, 2) := by decide +kernel
theorem dX1_multiply_34 : decode cX1_multiply 34 = .ok (.if_icmp .ge 7, 3) := by decide +kernel
theorem dX1_multiply_37 : decode cX1_multiply 37 = .ok (.iconst 1, 1) := by decide +kernel
theorem dX1_multiply_38 : decode cX1_multiply 38 = .ok (.goto 27, 3) := by decide +kernel
theorem dX1_multiply_41 : decode cX1_multiply 41 = .ok (.aload_n 0, 1) := by decide +kernel
theorem dX1_multiply_42 : decode cX1_multiply 42 = .ok (.getfield 28, 3) := by decide +kernel
theorem dX1_multiply_45 : decode cX1_multiply 45 = .ok (.aload_n 0, 1) := by decide +kernel
theorem dX1_multiply_46 : decode cX1_multiply 46 = .ok (.iload_n 1, 1) := by decide +kernel
theorem dX1_multiply_47 : decode cX1_multiply 47 = .ok (.iload 5, 2) := by decide +kernel
theorem dX1_multiply_49 : decode cX1_multiply 49 = .ok (.iload 4, 2) := by decide +kernel
theorem dX1_multiply_51 : decode cX1_multiply 51 = .ok (.isub, 1) := by decide +kernel
theorem dX1_multiply_52 : decode cX1_multiply 52 = .ok (.invokevirtual 54, 3) := by decide +kernel
theorem dX1_multiply_55 : decode cX1_multiply 55 = .ok (.aload_n 0, 1) := by decide +kernel
theorem dX1_multiply_56 : decode cX1_multiply 56 = .ok (.iload_n 2, 1) := by decide +kernel
theorem dX1_multiply_57 : decode cX1_multiply 57 = .ok (.iload 4, 2) := by decide +kernel
theorem dX1_multiply_59 : decode cX1_multiply 59 = .ok (.invokevirtual 54, 3) := by decide +kernel
theorem dX1_multiply_62 : decode cX1_multiply 62 = .ok (.invokevirtual 125, 3) := by decide +kernel
theorem dX1_multiply_65 : decode cX1_multiply 65 = .ok (.iastore, 1) := by decide +kernel
theorem dX1_multiply_66 : decode cX1_multiply 66 = .ok (.iinc 5 1, 3) := by decide +kernel
theorem dX1_multiply_69 : decode cX1_multiply 69 = .ok (.goto (-51), 3) := by decide +kernel
theorem dX1_multiply_72 : decode cX1_multiply 72 = .ok (.aload_n 0, 1) := by decide +kernel
theorem dX1_multiply_73 : decode cX1_multiply 73 = .ok (.iload_n 3, 1) := by decide +kernel
theorem dX1_multiply_74 : decode cX1_multiply 74 = .ok (.iconst 1, 1) := by decide +kernel
theorem dX1_multiply_75 : decode cX1_multiply 75 = .ok (.invokevirtual 173, 3) := by decide +kernel
theorem dX1_multiply_78 : decode cX1_multiply 78 = .ok (.pop, 1) := by decide +kernel
theorem dX1_multiply_79 : decode cX1_multiply 79 = .ok (.iconst 0, 1) := by decide +kernel
theorem dX1_multiply_80 : decode cX1_multiply 80 = .ok (.istore 5, 2) := by decide +kernel
theorem dX1_multiply_82 : decode cX1_multiply 82 = .ok (.iload 5, 2) := by decide +kernel
theorem dX1_multiply_84 : decode cX1_multiply 84 = .ok (.iload_n 3, 1) := by decide +kernel
theorem dX1_multiply_85 : decode cX1_multiply 85 = .ok (.if_icmp .ge 23, 3) := by decide +kernel
theorem dX1_multiply_88 : decode cX1_multiply 88 = .ok (.aload_n 0, 1) := by decide +kernel
theorem dX1_multiply_89 : decode cX1_multiply 89 = .ok (.getfield 15, 3) := by decide +kernel
theorem dX1_multiply_92 : decode cX1_multiply 92 = .ok (.iload 5, 2) := by decide +kernel
theorem dX1_multiply_94 : decode cX1_multiply 94 = .ok (.aload_n 0, 1) := by decide +kernel
theorem dX1_multiply_95 : decode cX1_multiply 95 = .ok (.getfield 21, 3) := by decide +kernel
theorem dX1_multiply_98 : decode cX1_multiply 98 = .ok (.iload 5, 2) := by decide +kernel
theorem dX1_multiply_100 : decode cX1_multiply 100 = .ok (.iaload, 1) := by decide +kernel
theorem dX1_multiply_101 : decode cX1_multiply 101 = .ok (.iastore, 1) := by decide +kernel
theorem dX1_multiply_102 : decode cX1_multiply 102 = .ok (.iinc 5 1, 3) := by decide +kernel
theorem dX1_multiply_105 : decode cX1_multiply 105 = .ok (.goto (-23), 3) := by decide +kernel
theorem dX1_multiply_108 : decode cX1_multiply 108 = .ok (.iinc 4 1, 3) := by decide +kernel
theorem dX1_multiply_111 : decode cX1_multiply 111 = .ok (.goto (-102), 3) := by decide +kernel
theorem dX1_multiply_114 : decode cX1_multiply 114 = .ok (.return_, 1) := by decide +kernel
theorem dX1_divide_0 : decode cX1_divide 0 = .ok (.aload_n 0, 1) := by decide +kernel
theorem dX1_divide_1 : decode cX1_divide 1 = .ok (.iconst (-1), 1) := by decide +kernel
theorem dX1_divide_2 : decode cX1_divide 2 = .ok (.iload 4, 2) := by decide +kernel
theorem dX1_divide_4 : decode cX1_divide 4 = .ok (.invokevirtual 166, 3) := by decide +kernel
theorem dX1_divide_7 : decode cX1_divide 7 = .ok (.aload_n 0, 1) := by decide +kernel
theorem dX1_divide_8 : decode cX1_divide 8 = .ok (.iload_n 3, 1) := by decide +kernel
theorem dX1_divide_9 : decode cX1_divide 9 = .ok (.iload 4, 2) := by decide +kernel
theorem dX1_divide_11 : decode cX1_divide 11 = .ok (.iconst 1, 1) := by decide +kernel
theorem dX1_divide_12 : decode cX1_divide 12 = .ok (.invokevirtual 169, 3) := by decide +kernel
theorem dX1_divide_15 : decode cX1_divide 15 = .ok (.iload 4, 2) := by decide +kernel
theorem dX1_divide_17 : decode cX1_divide 17 = .ok (.iconst 1, 1) := by decide +kernel
theorem dX1_divide_18 : decode cX1_divide 18 = .ok (.isub, 1) := by decide +kernel
theorem dX1_divide_19 : decode cX1_divide 19 = .ok (.istore 5, 2) := by decide +kernel
theorem dX1_divide_21 : decode cX1_divide 21 = .ok (.iload 5, 2) := by decide +kernel
theorem dX1_divide_23 : decode cX1_divide 23 = .ok (.ifCond .lt 125, 3) := by decide +kernel
theorem dX1_divide_26 : decode cX1_divide 26 = .ok (.iload 4, 2) := by decide +kernel
theorem dX1_divide_28 : decode cX1_divide 28 = .ok (.iconst 1, 1) := by decide +kernel
theorem dX1_divide_29 : decode cX1_divide 29 = .ok (.isub, 1) := by decide +kernel
theorem dX1_divide_30 : decode cX1_divide 30 = .ok (.istore 6, 2) := by decide +kernel
theorem dX1_divide_32 : decode cX1_divide 32 = .ok (.iload 6, 2) := by decide +kernel
theorem dX1_divide_34 : decode cX1_divide 34 = .ok (.ifCond .le 25, 3) := by decide +kernel
theorem dX1_divide_37 : decode cX1_divide 37 = .ok (.aload_n 0, 1) := by decide +kernel
theorem dX1_divide_38 : decode cX1_divide 38 = .ok (.getfield 15, 3) := by decide +kernel
theorem dX1_divide_41 : decode cX1_divide 41 = .ok (.iload 6, 2) := by decide +kernel
theorem dX1_divide_43 : decode cX1_divide 43 = .ok (.aload_n 0, 1) := by decide +kernel
theorem dX1_divide_44 : decode cX1_divide 44 = .ok (.getfield 15, 3) := by decide +kernel
theorem dX1_divide_47 : decode cX1_divide 47 = .ok (.iload 6, 2) := by decide +kernel
theorem dX1_divide_49 : decode cX1_divide 49 = .ok (.iconst 1, 1) := by decide +kernel
theorem dX1_divide_50 : decode cX1_divide 50 = .ok (.isub, 1) := by decide +kernel
theorem dX1_divide_51 : decode cX1_divide 51 = .ok (.iaload, 1) := by decide +kernel
theorem dX1_divide_52 : decode cX1_divide 52 = .ok (.iastore, 1) := by decide +kernel
theorem dX1_divide_53 : decode cX1_divide 53 = .ok (.iinc 6 (-1), 3) := by decide +kernel
theorem dX1_divide_56 : decode cX1_divide 56 = .ok (.goto (-24), 3) := by decide +kernel
theorem dX1_divide_59 : decode cX1_divide 59 = .ok (.aload_n 0, 1) := by decide +kernel
theorem dX1_divide_60 : decode cX1_divide 60 = .ok (.getfield 15, 3) := by decide +kernel
theorem dX1_divide_63 : decode cX1_divide 63 = .ok (.iconst 0, 1) := by decide +kernel
theorem dX1_divide_64 : decode cX1_divide 64 = .ok (.aload_n 0, 1) := by decide +kernel
theorem dX1_divide_65 : decode cX1_divide 65 = .ok (.iload_n 2, 1) := by decide +kernel
theorem dX1_divide_66 : decode cX1_divide 66 = .ok (.iload 5, 2) := by decide +kernel
theorem dX1_divide_68 : decode cX1_divide 68 = .ok (.invokevirtual 54, 3) := by decide +kernel
theorem dX1_divide_71 : decode cX1_divide 71 = .ok (.iastore, 1) := by decide +kernel
theorem dX1_divide_72 : decode cX1_divide 72 = .ok (.aload_n 0, 1) := by decide +kernel
theorem dX1_divide_73 : decode cX1_divide 73 = .ok (.iload 4, 2) := by decide +kernel
theorem dX1_divide_75 : decode cX1_divide 75 = .ok (.iconst 0, 1) := by decide +kernel
theorem dX1_divide_76 : decode cX1_divide 76 = .ok (.invokevirtual 173, 3) := by decide +kernel
theorem dX1_divide_79 : decode cX1_divide 79 = .ok (.istore 6, 2) := by decide +kernel
theorem dX1_divide_81 : decode cX1_divide 81 = .ok (.iconst 0, 1) := by decide +kernel
theorem dX1_divide_82 : decode cX1_divide 82 = .ok (.istore 7, 2) := by decide +kernel
theorem dX1_divide_84 : decode cX1_divide 84 = .ok (.iload 7, 2) := by decide +kernel
theorem dX1_divide_86 : decode cX1_divide 86 = .ok (.iload 4, 2) := by decide +kernel
theorem dX1_divide_88 : decode cX1_divide 88 = .ok (.if_icmp .ge 39, 3) := by decide +kernel
theorem dX1_divide_91 : decode cX1_divide 91 = .ok (.aload_n 0, 1) := by decide +kernel
theorem dX1_divide_92 : decode cX1_divide 92 = .ok (.getfield 15, 3) := by decide +kernel
theorem dX1_divide_95 : decode cX1_divide 95 = .ok (.iload 7, 2) := by decide +kernel
theorem dX1_divide_97 : decode cX1_divide 97 = .ok (.aload_n 0, 1) := by decide +kernel
theorem dX1_divide_98 : decode cX1_divide 98 = .ok (.getfield 28, 3) := by decide +kernel
theorem dX1_divide_101 : decode cX1_divide 101 = .ok (.iload 6, 2) := by decide +kernel
theorem dX1_divide_103 : decode cX1_divide 103 = .ok (.aload_n 0, 1) := by decide +kernel
theorem dX1_divide_104 : decode cX1_divide 104 = .ok (.getfield 21, 3) := by decide +kernel
theorem dX1_divide_107 : decode cX1_divide 107 = .ok (.iload 7, 2) := by decide +kernel
theorem dX1_divide_109 : decode cX1_divide 109 = .ok (.iaload, 1) := by decide +kernel
theorem dX1_divide_110 : decode cX1_divide 110 = .ok (.aload_n 0, 1) := by decide +kernel
theorem dX1_divide_111 : decode cX1_divide 111 = .ok (.getfield 15, 3) := by decide +kernel
theorem dX1_divide_114 : decode cX1_divide 114 = .ok (.iload 7, 2) := by decide +kernel
theorem dX1_divide_116 : decode cX1_divide 116 = .ok (.iaload, 1) := by decide +kernel
theorem dX1_divide_117 : decode cX1_divide 117 = .ok (.invokevirtual 136, 3) := by decide +kernel
theorem dX1_divide_120 : decode cX1_divide 120 = .ok (.iastore, 1) := by decide +kernel
theorem dX1_divide_121 : decode cX1_divide 121 = .ok (.iinc 7 1, 3) := by decide +kernel
theorem dX1_divide_124 : decode cX1_divide 124 = .ok (.goto (-40), 3) := by decide +kernel
theorem dX1_divide_127 : decode cX1_divide 127 = .ok (.aload_n 1, 1) := by decide +kernel
theorem dX1_divide_128 : decode cX1_divide 128 = .ok (.getstatic 188, 3) := by decide +kernel
theorem dX1_divide_131 : decode cX1_divide 131 = .ok (.if_acmp .ne 11, 3) := by decide +kernel
theorem dX1_divide_134 : decode cX1_divide 134 = .ok (.aload_n 0, 1) := by decide +kernel
theorem dX1_divide_135 : decode cX1_divide 135 = .ok (.iload 5, 2) := by decide +kernel
theorem dX1_divide_137 : decode cX1_divide 137 = .ok (.iload 6, 2) := by decide +kernel
theorem dX1_divide_139 : decode cX1_divide 139 = .ok (.invokevirtual 61, 3) := by decide +kernel
theorem dX1_divide_142 : decode cX1_divide 142 = .ok (.iinc 5 (-1), 3) := by decide +kernel
theorem dX1_divide_145 : decode cX1_divide 145 = .ok (.goto (-124), 3) := by decide +kernel
theorem dX1_divide_148 : decode cX1_divide 148 = .ok (.iconst 0, 1) := by decide +kernel
theorem dX1_divide_149 : decode cX1_divide 149 = .ok (.istore 5, 2) := by decide +kernel
theorem dX1_divide_151 : decode cX1_divide 151 = .ok (.iload 5, 2) := by decide +kernel
theorem dX1_divide_153 : decode cX1_divide 153 = .ok (.iload 4, 2) := by decide +kernel
theorem dX1_divide_155 : decode cX1_divide 155 = .ok (.if_icmp .ge 29, 3) := by decide +kernel
theorem dX1_divide_158 : decode cX1_divide 158 = .ok (.aload_n 1, 1) := by decide +kernel
theorem dX1_divide_159 : decode cX1_divide 159 = .ok (.getstatic 191, 3) := by decide +kernel
theorem dX1_divide_162 : decode cX1_divide 162 = .ok (.if_acmp .ne 22, 3) := by decide +kernel
theorem dX1_divide_165 : decode cX1_divide 165 = .ok (.aload_n 0, 1) := by decide +kernel
theorem dX1_divide_166 : decode cX1_divide 166 = .ok (.iload 5, 2) := by decide +kernel
theorem dX1_divide_168 : decode cX1_divide 168 = .ok (.aload_n 0, 1) := by decide +kernel
theorem dX1_divide_169 : decode cX1_divide 169 = .ok (.getfield 15, 3) := by decide +kernel
theorem dX1_divide_172 : decode cX1_divide 172 = .ok (.iload 5, 2) := by decide +kernel
theorem dX1_divide_174 : decode cX1_divide 174 = .ok (.iaload, 1) := by decide +kernel
theorem dX1_divide_175 : decode cX1_divide 175 = .ok (.invokevirtual 61, 3) := by decide +kernel
theorem dX1_divide_178 : decode cX1_divide 178 = .ok (.iinc 5 1, 3) := by decide +kernel
theorem dX1_divide_181 : decode cX1_divide 181 = .ok (.goto (-30), 3) := by decide +kernel
theorem dX1_divide_184 : decode cX1_divide 184 = .ok (.return_, 1) := by decide +kernel
theorem dX1_shift_0 : decode cX1_shift 0 = .ok (.aload_n 1, 1) := by decide +kernel
theorem dX1_shift_1 : decode cX1_shift 1 = .ok (.getstatic 194, 3) := by decide +kernel
theorem dX1_shift_4 : decode cX1_shift 4 = .ok (.if_acmp .ne 15, 3) := by decide +kernel
theorem dX1_shift_7 : decode cX1_shift 7 = .ok (.aload_n 0, 1) := by decide +kernel
theorem dX1_shift_8 : decode cX1_shift 8 = .ok (.iload_n 2, 1) := by decide +kernel
theorem dX1_shift_9 : decode cX1_shift 9 = .ok (.iload 4, 2) := by decide +kernel
theorem dX1_shift_11 : decode cX1_shift 11 = .ok (.iconst 1, 1) := by decide +kernel
theorem dX1_shift_12 : decode cX1_shift 12 = .ok (.isub, 1) := by decide +kernel
theorem dX1_shift_13 : decode cX1_shift 13 = .ok (.invokevirtual 54, 3) := by decide +kernel
theorem dX1_shift_16 : decode cX1_shift 16 = .ok (.goto 4, 3) := by decide +kernel
theorem dX1_shift_19 : decode cX1_shift 19 = .ok (.iconst 1, 1) := by decide +kernel
theorem dX1_shift_20 : decode cX1_shift 20 = .ok (.istore 5, 2) := by decide +kernel
theorem dX1_shift_22 : decode cX1_shift 22 = .ok (.aload_n 0, 1) := by decide +kernel
theorem dX1_shift_23 : decode cX1_shift 23 = .ok (.iload_n 2, 1) := by decide +kernel
theorem dX1_shift_24 : decode cX1_shift 24 = .ok (.iload 4, 2) := by decide +kernel
theorem dX1_shift_26 : decode cX1_shift 26 = .ok (.invokevirtual 166, 3) := by decide +kernel
theorem dX1_shift_29 : decode cX1_shift 29 = .ok (.iconst 0, 1) := by decide +kernel
theorem dX1_shift_30 : decode cX1_shift 30 = .ok (.istore 6, 2) := by decide +kernel
theorem dX1_shift_32 : decode cX1_shift 32 = .ok (.iload 6, 2) := by decide +kernel
theorem dX1_shift_34 : decode cX1_shift 34 = .ok (.iload 4, 2) := by decide +kernel
theorem dX1_shift_36 : decode cX1_shift 36 = .ok (.if_icmp .ge 139, 3) := by decide +kernel
theorem dX1_shift_39 : decode cX1_shift 39 = .ok (.aload_n 1, 1) := by decide +kernel
theorem dX1_shift_40 : decode cX1_shift 40 = .ok (.getstatic 197, 3) := by decide +kernel
theorem dX1_shift_43 : decode cX1_shift 43 = .ok (.if_acmp .ne 11, 3) := by decide +kernel
theorem dX1_shift_46 : decode cX1_shift 46 = .ok (.iconst 1, 1) := by decide +kernel
theorem dX1_shift_47 : decode cX1_shift 47 = .ok (.iload 6, 2) := by decide +kernel
theorem dX1_shift_49 : decode cX1_shift 49 = .ok (.ishl, 1) := by decide +kernel
theorem dX1_shift_50 : decode cX1_shift 50 = .ok (.ineg, 1) := by decide +kernel
theorem dX1_shift_51 : decode cX1_shift 51 = .ok (.goto 7, 3) := by decide +kernel
theorem dX1_shift_54 : decode cX1_shift 54 = .ok (.iconst 1, 1) := by decide +kernel
theorem dX1_shift_55 : decode cX1_shift 55 = .ok (.iload 6, 2) := by decide +kernel
theorem dX1_shift_57 : decode cX1_shift 57 = .ok (.ishl, 1) := by decide +kernel
theorem dX1_shift_58 : decode cX1_shift 58 = .ok (.istore 7, 2) := by decide +kernel
theorem dX1_shift_60 : decode cX1_shift 60 = .ok (.iconst 0, 1) := by decide +kernel
theorem dX1_shift_61 : decode cX1_shift 61 = .ok (.istore 8, 2) := by decide +kernel
theorem dX1_shift_63 : decode cX1_shift 63 = .ok (.iload 8, 2) := by decide +kernel
theorem dX1_shift_65 : decode cX1_shift 65 = .ok (.iload 4, 2) := by decide +kernel
theorem dX1_shift_67 : decode cX1_shift 67 = .ok (.if_icmp .ge 72, 3) := by decide +kernel
theorem dX1_shift_70 : decode cX1_shift 70 = .ok (.iload 8, 2) := by decide +kernel
theorem dX1_shift_72 : decode cX1_shift 72 = .ok (.iload 7, 2) := by decide +kernel
theorem dX1_shift_74 : decode cX1_shift 74 = .ok (.iadd, 1) := by decide +kernel
theorem dX1_shift_75 : decode cX1_shift 75 = .ok (.istore 9, 2) := by decide +kernel
theorem dX1_shift_77 : decode cX1_shift 77 = .ok (.iload 9, 2) := by decide +kernel
theorem dX1_shift_79 : decode cX1_shift 79 = .ok (.ifCond .lt 20, 3) := by decide +kernel
theorem dX1_shift_82 : decode cX1_shift 82 = .ok (.iload 9, 2) := by decide +kernel
theorem dX1_shift_84 : decode cX1_shift 84 = .ok (.iload 4, 2) := by decide +kernel
theorem dX1_shift_86 : decode cX1_shift 86 = .ok (.if_icmp .ge 13, 3) := by decide +kernel
theorem dX1_shift_89 : decode cX1_shift 89 = .ok (.aload_n 0, 1) := by decide +kernel
theorem dX1_shift_90 : decode cX1_shift 90 = .ok (.getfield 15, 3) := by decide +kernel
theorem dX1_shift_93 : decode cX1_shift 93 = .ok (.iload 9, 2) := by decide +kernel
theorem dX1_shift_95 : decode cX1_shift 95 = .ok (.iaload, 1) := by decide +kernel
theorem dX1_shift_96 : decode cX1_shift 96 = .ok (.goto 5, 3) := by decide +kernel
theorem dX1_shift_99 : decode cX1_shift 99 = .ok (.iload 5, 2) := by decide +kernel
theorem dX1_shift_101 : decode cX1_shift 101 = .ok (.istore 10, 2) := by decide +kernel
theorem dX1_shift_103 : decode cX1_shift 103 = .ok (.aload_n 0, 1) := by decide +kernel
theorem dX1_shift_104 : decode cX1_shift 104 = .ok (.getfield 21, 3) := by decide +kernel
theorem dX1_shift_107 : decode cX1_shift 107 = .ok (.iload 8, 2) := by decide +kernel
theorem dX1_shift_109 : decode cX1_shift 109 = .ok (.aload_n 0, 1) := by decide +kernel
theorem dX1_shift_110 : decode cX1_shift 110 = .ok (.getfield 28, 3) := by decide +kernel
theorem dX1_shift_113 : decode cX1_shift 113 = .ok (.aload_n 0, 1) := by decide +kernel
theorem dX1_shift_114 : decode cX1_shift 114 = .ok (.iload_n 3, 1) := by decide +kernel
theorem dX1_shift_115 : decode cX1_shift 115 = .ok (.iload 6, 2) := by decide +kernel
theorem dX1_shift_117 : decode cX1_shift 117 = .ok (.invokevirtual 54, 3) := by decide +kernel
theorem dX1_shift_120 : decode cX1_shift 120 = .ok (.iload 10, 2) := by decide +kernel
theorem dX1_shift_122 : decode cX1_shift 122 = .ok (.aload_n 0, 1) := by decide +kernel
theorem dX1_shift_123 : decode cX1_shift 123 = .ok (.getfield 15, 3) := by decide +kernel
theorem dX1_shift_126 : decode cX1_shift 126 = .ok (.iload 8, 2) := by decide +kernel
theorem dX1_shift_128 : decode cX1_shift 128 = .ok (.iaload, 1) := by decide +kernel
theorem dX1_shift_129 : decode cX1_shift 129 = .ok (.invokevirtual 136, 3) := by decide +kernel
theorem dX1_shift_132 : decode cX1_shift 132 = .ok (.iastore, 1) := by decide +kernel
theorem dX1_shift_133 : decode cX1_shift 133 = .ok (.iinc 8 1, 3) := by decide +kernel
theorem dX1_shift_136 : decode cX1_shift 136 = .ok (.goto (-73), 3) := by decide +kernel
theorem dX1_shift_139 : decode cX1_shift 139 = .ok (.iconst 0, 1) := by decide +kernel
theorem dX1_shift_140 : decode cX1_shift 140 = .ok (.istore 8, 2) := by decide +kernel
theorem dX1_shift_142 : decode cX1_shift 142 = .ok (.iload 8, 2) := by decide +kernel
theorem dX1_shift_144 : decode cX1_shift 144 = .ok (.iload 4, 2) := by decide +kernel
theorem dX1_shift_146 : decode cX1_shift 146 = .ok (.if_icmp .ge 23, 3) := by decide +kernel
theorem dX1_shift_149 : decode cX1_shift 149 = .ok (.aload_n 0, 1) := by decide +kernel
theorem dX1_shift_150 : decode cX1_shift 150 = .ok (.getfield 15, 3) := by decide +kernel
theorem dX1_shift_153 : decode cX1_shift 153 = .ok (.iload 8, 2) := by decide +kernel
theorem dX1_shift_155 : decode cX1_shift 155 = .ok (.aload_n 0, 1) := by decide +kernel
theorem dX1_shift_156 : decode cX1_shift 156 = .ok (.getfield 21, 3) := by decide +kernel
theorem dX1_shift_159 : decode cX1_shift 159 = .ok (.iload 8, 2) := by decide +kernel
theorem dX1_shift_161 : decode cX1_shift 161 = .ok (.iaload, 1) := by decide +kernel
theorem dX1_shift_162 : decode cX1_shift 162 = .ok (.iastore, 1) := by decide +kernel
theorem dX1_shift_163 : decode cX1_shift 163 = .ok (.iinc 8 1, 3) := by decide +kernel
theorem dX1_shift_166 : decode cX1_shift 166 = .ok (.goto (-24), 3) := by decide +kernel
theorem dX1_shift_169 : decode cX1_shift 169 = .ok (.iinc 6 1, 3) := by decide +kernel
theorem dX1_shift_172 : decode cX1_shift 172 = .ok (.goto (-140), 3) := by decide +kernel
theorem dX1_shift_175 : decode cX1_shift 175 = .ok (.return_, 1) := by decide +kernel
theorem dX2_init_0 : decode cX2_init 0 = .ok (.aload_n 0, 1) := by decide +kernel
theorem dX2_init_1 : decode cX2_init 1 = .ok (.invokespecial 5, 3) := by decide +kernel
theorem dX2_init_4 : decode cX2_init 4 = .ok (.aload_n 0, 1) := by decide +kernel
theorem dX2_init_5 : decode cX2_init 5 = .ok (.sipush 14828, 3) := by decide +kernel
theorem dX2_init_8 : decode cX2_init 8 = .ok (.newarray .int, 2) := by decide +kernel
theorem dX2_init_10 : decode cX2_init 10 = .ok (.putfield 11, 3) := by decide +kernel
theorem dX2_init_13 : decode cX2_init 13 = .ok (.aload_n 0, 1) := by decide +kernel
theorem dX2_init_14 : decode cX2_init 14 = .ok (.sipush 4517, 3) := by decide +kernel
theorem dX2_init_17 : decode cX2_init 17 = .ok (.newarray .int, 2) := by decide +kernel
theorem dX2_init_19 : decode cX2_init 19 = .ok (.putfield 15, 3) := by decide +kernel
theorem dX2_init_22 : decode cX2_init 22 = .ok (.aload_n 0, 1) := by decide +kernel
theorem dX2_init_23 : decode cX2_init 23 = .ok (.sipush 2130, 3) := by decide +kernel
theorem dX2_init_26 : decode cX2_init 26 = .ok (.newarray .int, 2) := by decide +kernel
theorem dX2_init_28 : decode cX2_init 28 = .ok (.putfield 18, 3) := by decide +kernel
theorem dX2_init_31 : decode cX2_init 31 = .ok (.aload_n 0, 1) := by decide +kernel
theorem dX2_init_32 : decode cX2_init 32 = .ok (.sipush 9032, 3) := by decide +kernel
theorem dX2_init_35 : decode cX2_init 35 = .ok (.newarray .int, 2) := by decide +kernel
theorem dX2_init_37 : decode cX2_init 37 = .ok (.putfield 21, 3) := by decide +kernel
theorem dX2_init_40 : decode cX2_init 40 = .ok (.return_, 1) := by decide +kernel
theorem dX2_clear_0 : decode cX2_clear 0 = .ok (.aload_n 0, 1) := by decide +kernel
theorem dX2_clear_1 : decode cX2_clear 1 = .ok (.iconst 0, 1) := by decide +kernel
theorem dX2_clear_2 : decode cX2_clear 2 = .ok (.putfield 24, 3) := by decide +kernel
theorem dX2_clear_5 : decode cX2_clear 5 = .ok (.aload_n 0, 1) := by decide +kernel
theorem dX2_clear_6 : decode cX2_clear 6 = .ok (.getfield 15, 3) := by decide +kernel
theorem dX2_clear_9 : decode cX2_clear 9 = .ok (.iconst 1, 1) := by decide +kernel
theorem dX2_clear_10 : decode cX2_clear 10 = .ok (.iconst 0, 1) := by decide +kernel
theorem dX2_clear_11 : decode cX2_clear 11 = .ok (.iastore, 1) := by decide +kernel
theorem dX2_clear_12 : decode cX2_clear 12 = .ok (.iconst 0, 1) := by decide +kernel
theorem dX2_clear_13 : decode cX2_clear 13 = .ok (.istore_n 2, 1) := by decide +kernel
theorem dX2_clear_14 : decode cX2_clear 14 = .ok (.iload_n 2, 1) := by decide +kernel
theorem dX2_clear_15 : decode cX2_clear 15 = .ok (.iconst 2, 1) := by decide +kernel
theorem dX2_clear_16 : decode cX2_clear 16 = .ok (.iload_n 1, 1) := by decide +kernel
theorem dX2_clear_17 : decode cX2_clear 17 = .ok (.imul, 1) := by decide +kernel
theorem dX2_clear_18 : decode cX2_clear 18 = .ok (.if_icmp .ge 23, 3) := by decide +kernel
theorem dX2_clear_21 : decode cX2_clear 21 = .ok (.iload_n 2, 1) := by decide +kernel
theorem dX2_clear_22 : decode cX2_clear 22 = .ok (.sipush 2130, 3) := by decide +kernel
theorem dX2_clear_25 : decode cX2_clear 25 = .ok (.if_icmp .ge 16, 3) := by decide +kernel
theorem dX2_clear_28 : decode cX2_clear 28 = .ok (.aload_n 0, 1) := by decide +kernel
theorem dX2_clear_29 : decode cX2_clear 29 = .ok (.getfield 18, 3) := by decide +kernel
theorem dX2_clear_32 : decode cX2_clear 32 = .ok (.iload_n 2, 1) := by decide +kernel
