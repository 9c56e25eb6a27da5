theorem dX11_onWords_5 : decode cX11_onWords 5 = .ok (.istore 4, 2) := by decide +kernel
theorem dX11_onWords_7 : decode cX11_onWords 7 = .ok (.iload_n 0, 1) := by decide +kernel
theorem dX11_onWords_8 : decode cX11_onWords 8 = .ok (.tableswitch 125 14 23 #[56, 60, 64, 68, 75, 82, 89, 102, 114, 121], 56) := by decide +kernel
theorem dX11_onWords_64 : decode cX11_onWords 64 = .ok (.iload_n 1, 1) := by decide +kernel
theorem dX11_onWords_65 : decode cX11_onWords 65 = .ok (.iload_n 2, 1) := by decide +kernel
theorem dX11_onWords_66 : decode cX11_onWords 66 = .ok (.iand, 1) := by decide +kernel
theorem dX11_onWords_67 : decode cX11_onWords 67 = .ok (.ireturn, 1) := by decide +kernel
theorem dX11_onWords_68 : decode cX11_onWords 68 = .ok (.iload_n 1, 1) := by decide +kernel
theorem dX11_onWords_69 : decode cX11_onWords 69 = .ok (.iload_n 2, 1) := by decide +kernel
theorem dX11_onWords_70 : decode cX11_onWords 70 = .ok (.ior, 1) := by decide +kernel
theorem dX11_onWords_71 : decode cX11_onWords 71 = .ok (.ireturn, 1) := by decide +kernel
theorem dX11_onWords_72 : decode cX11_onWords 72 = .ok (.iload_n 1, 1) := by decide +kernel
theorem dX11_onWords_73 : decode cX11_onWords 73 = .ok (.iload_n 2, 1) := by decide +kernel
theorem dX11_onWords_74 : decode cX11_onWords 74 = .ok (.ixor, 1) := by decide +kernel
theorem dX11_onWords_75 : decode cX11_onWords 75 = .ok (.ireturn, 1) := by decide +kernel
theorem dX11_onWords_76 : decode cX11_onWords 76 = .ok (.iload_n 1, 1) := by decide +kernel
theorem dX11_onWords_77 : decode cX11_onWords 77 = .ok (.iload_n 2, 1) := by decide +kernel
theorem dX11_onWords_78 : decode cX11_onWords 78 = .ok (.iadd, 1) := by decide +kernel
theorem dX11_onWords_79 : decode cX11_onWords 79 = .ok (.iload 4, 2) := by decide +kernel
theorem dX11_onWords_81 : decode cX11_onWords 81 = .ok (.iand, 1) := by decide +kernel
theorem dX11_onWords_82 : decode cX11_onWords 82 = .ok (.ireturn, 1) := by decide +kernel
theorem dX11_onWords_83 : decode cX11_onWords 83 = .ok (.iload_n 1, 1) := by decide +kernel
theorem dX11_onWords_84 : decode cX11_onWords 84 = .ok (.iload_n 2, 1) := by decide +kernel
theorem dX11_onWords_85 : decode cX11_onWords 85 = .ok (.isub, 1) := by decide +kernel
theorem dX11_onWords_86 : decode cX11_onWords 86 = .ok (.iload 4, 2) := by decide +kernel
theorem dX11_onWords_88 : decode cX11_onWords 88 = .ok (.iand, 1) := by decide +kernel
theorem dX11_onWords_89 : decode cX11_onWords 89 = .ok (.ireturn, 1) := by decide +kernel
theorem dX11_onWords_90 : decode cX11_onWords 90 = .ok (.iload_n 1, 1) := by decide +kernel
theorem dX11_onWords_91 : decode cX11_onWords 91 = .ok (.iload_n 2, 1) := by decide +kernel
theorem dX11_onWords_92 : decode cX11_onWords 92 = .ok (.imul, 1) := by decide +kernel
theorem dX11_onWords_93 : decode cX11_onWords 93 = .ok (.iload 4, 2) := by decide +kernel
theorem dX11_onWords_95 : decode cX11_onWords 95 = .ok (.iand, 1) := by decide +kernel
theorem dX11_onWords_96 : decode cX11_onWords 96 = .ok (.ireturn, 1) := by decide +kernel
theorem dX11_onWords_97 : decode cX11_onWords 97 = .ok (.iload_n 2, 1) := by decide +kernel
theorem dX11_onWords_98 : decode cX11_onWords 98 = .ok (.ifCond .ne 8, 3) := by decide +kernel
theorem dX11_onWords_101 : decode cX11_onWords 101 = .ok (.iload 4, 2) := by decide +kernel
theorem dX11_onWords_103 : decode cX11_onWords 103 = .ok (.goto 6, 3) := by decide +kernel
theorem dX11_onWords_106 : decode cX11_onWords 106 = .ok (.iload_n 1, 1) := by decide +kernel
theorem dX11_onWords_107 : decode cX11_onWords 107 = .ok (.iload_n 2, 1) := by decide +kernel
theorem dX11_onWords_108 : decode cX11_onWords 108 = .ok (.idiv, 1) := by decide +kernel
theorem dX11_onWords_109 : decode cX11_onWords 109 = .ok (.ireturn, 1) := by decide +kernel
theorem dX11_onWords_110 : decode cX11_onWords 110 = .ok (.iload_n 2, 1) := by decide +kernel
theorem dX11_onWords_111 : decode cX11_onWords 111 = .ok (.ifCond .ne 7, 3) := by decide +kernel
theorem dX11_onWords_114 : decode cX11_onWords 114 = .ok (.iload_n 1, 1) := by decide +kernel
theorem dX11_onWords_115 : decode cX11_onWords 115 = .ok (.goto 6, 3) := by decide +kernel
theorem dX11_onWords_118 : decode cX11_onWords 118 = .ok (.iload_n 1, 1) := by decide +kernel
theorem dX11_onWords_119 : decode cX11_onWords 119 = .ok (.iload_n 2, 1) := by decide +kernel
theorem dX11_onWords_120 : decode cX11_onWords 120 = .ok (.irem, 1) := by decide +kernel
theorem dX11_onWords_121 : decode cX11_onWords 121 = .ok (.ireturn, 1) := by decide +kernel
theorem dX11_onWords_122 : decode cX11_onWords 122 = .ok (.iload_n 1, 1) := by decide +kernel
theorem dX11_onWords_123 : decode cX11_onWords 123 = .ok (.iload_n 2, 1) := by decide +kernel
theorem dX11_onWords_124 : decode cX11_onWords 124 = .ok (.ishl, 1) := by decide +kernel
theorem dX11_onWords_125 : decode cX11_onWords 125 = .ok (.iload 4, 2) := by decide +kernel
theorem dX11_onWords_127 : decode cX11_onWords 127 = .ok (.iand, 1) := by decide +kernel
theorem dX11_onWords_128 : decode cX11_onWords 128 = .ok (.ireturn, 1) := by decide +kernel
theorem dX11_onWords_129 : decode cX11_onWords 129 = .ok (.iload_n 1, 1) := by decide +kernel
theorem dX11_onWords_130 : decode cX11_onWords 130 = .ok (.iload_n 2, 1) := by decide +kernel
theorem dX11_onWords_131 : decode cX11_onWords 131 = .ok (.ishr, 1) := by decide +kernel
theorem dX11_onWords_132 : decode cX11_onWords 132 = .ok (.ireturn, 1) := by decide +kernel
theorem dX11_onWords_133 : decode cX11_onWords 133 = .ok (.iload_n 1, 1) := by decide +kernel
theorem dX11_onWords_134 : decode cX11_onWords 134 = .ok (.iload_n 3, 1) := by decide +kernel
theorem dX11_onWords_135 : decode cX11_onWords 135 = .ok (.invokestatic 335, 3) := by decide +kernel
theorem dX11_onWords_138 : decode cX11_onWords 138 = .ok (.iload_n 2, 1) := by decide +kernel
theorem dX11_onWords_139 : decode cX11_onWords 139 = .ok (.ishr, 1) := by decide +kernel
theorem dX11_onWords_140 : decode cX11_onWords 140 = .ok (.iload 4, 2) := by decide +kernel
theorem dX11_onWords_142 : decode cX11_onWords 142 = .ok (.iand, 1) := by decide +kernel
theorem dX11_onWords_143 : decode cX11_onWords 143 = .ok (.ireturn, 1) := by decide +kernel
theorem dX11_isTrue_0 : decode cX11_isTrue 0 = .ok (.iload_n 0, 1) := by decide +kernel
theorem dX11_isTrue_1 : decode cX11_isTrue 1 = .ok (.tableswitch 242 4 27 #[111, 121, 137, 153, 164, 179, 190, 242, 242, 242, 242, 242, 242, 242, 242, 242, 242, 242, 242, 242, 242, 201, 212, 223], 111) := by decide +kernel
theorem dX11_isTrue_112 : decode cX11_isTrue 112 = .ok (.iload_n 1, 1) := by decide +kernel
theorem dX11_isTrue_113 : decode cX11_isTrue 113 = .ok (.ifCond .ne 7, 3) := by decide +kernel
theorem dX11_isTrue_116 : decode cX11_isTrue 116 = .ok (.iconst 1, 1) := by decide +kernel
theorem dX11_isTrue_117 : decode cX11_isTrue 117 = .ok (.goto 4, 3) := by decide +kernel
theorem dX11_isTrue_120 : decode cX11_isTrue 120 = .ok (.iconst 0, 1) := by decide +kernel
theorem dX11_isTrue_121 : decode cX11_isTrue 121 = .ok (.ireturn, 1) := by decide +kernel
theorem dX11_isTrue_122 : decode cX11_isTrue 122 = .ok (.iload_n 1, 1) := by decide +kernel
theorem dX11_isTrue_123 : decode cX11_isTrue 123 = .ok (.iconst 1, 1) := by decide +kernel
theorem dX11_isTrue_124 : decode cX11_isTrue 124 = .ok (.if_icmp .ne 12, 3) := by decide +kernel
theorem dX11_isTrue_127 : decode cX11_isTrue 127 = .ok (.iload_n 2, 1) := by decide +kernel
theorem dX11_isTrue_128 : decode cX11_isTrue 128 = .ok (.iconst 1, 1) := by decide +kernel
theorem dX11_isTrue_129 : decode cX11_isTrue 129 = .ok (.if_icmp .ne 7, 3) := by decide +kernel
theorem dX11_isTrue_132 : decode cX11_isTrue 132 = .ok (.iconst 1, 1) := by decide +kernel
theorem dX11_isTrue_133 : decode cX11_isTrue 133 = .ok (.goto 4, 3) := by decide +kernel
theorem dX11_isTrue_136 : decode cX11_isTrue 136 = .ok (.iconst 0, 1) := by decide +kernel
theorem dX11_isTrue_137 : decode cX11_isTrue 137 = .ok (.ireturn, 1) := by decide +kernel
theorem dX11_isTrue_138 : decode cX11_isTrue 138 = .ok (.iload_n 1, 1) := by decide +kernel
theorem dX11_isTrue_139 : decode cX11_isTrue 139 = .ok (.iconst 1, 1) := by decide +kernel
theorem dX11_isTrue_140 : decode cX11_isTrue 140 = .ok (.if_icmp .eq 8, 3) := by decide +kernel
theorem dX11_isTrue_143 : decode cX11_isTrue 143 = .ok (.iload_n 2, 1) := by decide +kernel
theorem dX11_isTrue_144 : decode cX11_isTrue 144 = .ok (.iconst 1, 1) := by decide +kernel
theorem dX11_isTrue_145 : decode cX11_isTrue 145 = .ok (.if_icmp .ne 7, 3) := by decide +kernel
theorem dX11_isTrue_148 : decode cX11_isTrue 148 = .ok (.iconst 1, 1) := by decide +kernel
theorem dX11_isTrue_149 : decode cX11_isTrue 149 = .ok (.goto 4, 3) := by decide +kernel
theorem dX11_isTrue_152 : decode cX11_isTrue 152 = .ok (.iconst 0, 1) := by decide +kernel
theorem dX11_isTrue_153 : decode cX11_isTrue 153 = .ok (.ireturn, 1) := by decide +kernel
theorem dX11_isTrue_154 : decode cX11_isTrue 154 = .ok (.iload_n 1, 1) := by decide +kernel
theorem dX11_isTrue_155 : decode cX11_isTrue 155 = .ok (.iload_n 2, 1) := by decide +kernel
theorem dX11_isTrue_156 : decode cX11_isTrue 156 = .ok (.if_icmp .eq 7, 3) := by decide +kernel
theorem dX11_isTrue_159 : decode cX11_isTrue 159 = .ok (.iconst 1, 1) := by decide +kernel
theorem dX11_isTrue_160 : decode cX11_isTrue 160 = .ok (.goto 4, 3) := by decide +kernel
theorem dX11_isTrue_163 : decode cX11_isTrue 163 = .ok (.iconst 0, 1) := by decide +kernel
theorem dX11_isTrue_164 : decode cX11_isTrue 164 = .ok (.ireturn, 1) := by decide +kernel
theorem dX11_isTrue_165 : decode cX11_isTrue 165 = .ok (.iload_n 1, 1) := by decide +kernel
theorem dX11_isTrue_166 : decode cX11_isTrue 166 = .ok (.ifCond .eq 8, 3) := by decide +kernel
theorem dX11_isTrue_169 : decode cX11_isTrue 169 = .ok (.iload_n 2, 1) := by decide +kernel
theorem dX11_isTrue_170 : decode cX11_isTrue 170 = .ok (.iconst 1, 1) := by decide +kernel
theorem dX11_isTrue_171 : decode cX11_isTrue 171 = .ok (.if_icmp .ne 7, 3) := by decide +kernel
theorem dX11_isTrue_174 : decode cX11_isTrue 174 = .ok (.iconst 1, 1) := by decide +kernel
theorem dX11_isTrue_175 : decode cX11_isTrue 175 = .ok (.goto 4, 3) := by decide +kernel
theorem dX11_isTrue_178 : decode cX11_isTrue 178 = .ok (.iconst 0, 1) := by decide +kernel
theorem dX11_isTrue_179 : decode cX11_isTrue 179 = .ok (.ireturn, 1) := by decide +kernel
theorem dX11_isTrue_180 : decode cX11_isTrue 180 = .ok (.iload_n 1, 1) := by decide +kernel
theorem dX11_isTrue_181 : decode cX11_isTrue 181 = .ok (.iload_n 2, 1) := by decide +kernel
theorem dX11_isTrue_182 : decode cX11_isTrue 182 = .ok (.if_icmp .ne 7, 3) := by decide +kernel
theorem dX11_isTrue_185 : decode cX11_isTrue 185 = .ok (.iconst 1, 1) := by decide +kernel
theorem dX11_isTrue_186 : decode cX11_isTrue 186 = .ok (.goto 4, 3) := by decide +kernel
theorem dX11_isTrue_189 : decode cX11_isTrue 189 = .ok (.iconst 0, 1) := by decide +kernel
theorem dX11_isTrue_190 : decode cX11_isTrue 190 = .ok (.ireturn, 1) := by decide +kernel
theorem dX11_isTrue_191 : decode cX11_isTrue 191 = .ok (.iload_n 1, 1) := by decide +kernel
theorem dX11_isTrue_192 : decode cX11_isTrue 192 = .ok (.iload_n 2, 1) := by decide +kernel
theorem dX11_isTrue_193 : decode cX11_isTrue 193 = .ok (.if_icmp .eq 7, 3) := by decide +kernel
theorem dX11_isTrue_196 : decode cX11_isTrue 196 = .ok (.iconst 1, 1) := by decide +kernel
theorem dX11_isTrue_197 : decode cX11_isTrue 197 = .ok (.goto 4, 3) := by decide +kernel
theorem dX11_isTrue_200 : decode cX11_isTrue 200 = .ok (.iconst 0, 1) := by decide +kernel
theorem dX11_isTrue_201 : decode cX11_isTrue 201 = .ok (.ireturn, 1) := by decide +kernel
theorem dX11_isTrue_202 : decode cX11_isTrue 202 = .ok (.iload_n 1, 1) := by decide +kernel
theorem dX11_isTrue_203 : decode cX11_isTrue 203 = .ok (.iload_n 2, 1) := by decide +kernel
theorem dX11_isTrue_204 : decode cX11_isTrue 204 = .ok (.if_icmp .ge 7, 3) := by decide +kernel
theorem dX11_isTrue_207 : decode cX11_isTrue 207 = .ok (.iconst 1, 1) := by decide +kernel
theorem dX11_isTrue_208 : decode cX11_isTrue 208 = .ok (.goto 4, 3) := by decide +kernel
theorem dX11_isTrue_211 : decode cX11_isTrue 211 = .ok (.iconst 0, 1) := by decide +kernel
theorem dX11_isTrue_212 : decode cX11_isTrue 212 = .ok (.ireturn, 1) := by decide +kernel
theorem dX11_isTrue_213 : decode cX11_isTrue 213 = .ok (.iload_n 1, 1) := by decide +kernel
theorem dX11_isTrue_214 : decode cX11_isTrue 214 = .ok (.iload_n 2, 1) := by decide +kernel
theorem dX11_isTrue_215 : decode cX11_isTrue 215 = .ok (.if_icmp .gt 7, 3) := by decide +kernel
theorem dX11_isTrue_218 : decode cX11_isTrue 218 = .ok (.iconst 1, 1) := by decide +kernel
theorem dX11_isTrue_219 : decode cX11_isTrue 219 = .ok (.goto 4, 3) := by decide +kernel
theorem dX11_isTrue_222 : decode cX11_isTrue 222 = .ok (.iconst 0, 1) := by decide +kernel
theorem dX11_isTrue_223 : decode cX11_isTrue 223 = .ok (.ireturn, 1) := by decide +kernel
theorem dX11_isTrue_224 : decode cX11_isTrue 224 = .ok (.iload_n 1, 1) := by decide +kernel
theorem dX11_isTrue_225 : decode cX11_isTrue 225 = .ok (.iload_n 3, 1) := by decide +kernel
theorem dX11_isTrue_226 : decode cX11_isTrue 226 = .ok (.invokestatic 335, 3) := by decide +kernel
theorem dX11_isTrue_229 : decode cX11_isTrue 229 = .ok (.iload_n 2, 1) := by decide +kernel
theorem dX11_isTrue_230 : decode cX11_isTrue 230 = .ok (.iload_n 3, 1) := by decide +kernel
theorem dX11_isTrue_231 : decode cX11_isTrue 231 = .ok (.invokestatic 335, 3) := by decide +kernel
theorem dX11_isTrue_234 : decode cX11_isTrue 234 = .ok (.if_icmp .ge 7, 3) := by decide +kernel
theorem dX11_isTrue_237 : decode cX11_isTrue 237 = .ok (.iconst 1, 1) := by decide +kernel
theorem dX11_isTrue_238 : decode cX11_isTrue 238 = .ok (.goto 4, 3) := by decide +kernel
theorem dX11_isTrue_241 : decode cX11_isTrue 241 = .ok (.iconst 0, 1) := by decide +kernel
theorem dX11_isTrue_242 : decode cX11_isTrue 242 = .ok (.ireturn, 1) := by decide +kernel
theorem dX11_isTrue_243 : decode cX11_isTrue 243 = .ok (.iload_n 1, 1) := by decide +kernel
theorem dX11_isTrue_244 : decode cX11_isTrue 244 = .ok (.iload_n 3, 1) := by decide +kernel
theorem dX11_isTrue_245 : decode cX11_isTrue 245 = .ok (.invokestatic 335, 3) := by decide +kernel
theorem dX11_isTrue_248 : decode cX11_isTrue 248 = .ok (.iload_n 2, 1) := by decide +kernel
theorem dX11_isTrue_249 : decode cX11_isTrue 249 = .ok (.iload_n 3, 1) := by decide +kernel
theorem dX11_isTrue_250 : decode cX11_isTrue 250 = .ok (.invokestatic 335, 3) := by decide +kernel
theorem dX11_isTrue_253 : decode cX11_isTrue 253 = .ok (.if_icmp .gt 7, 3) := by decide +kernel
theorem dX11_isTrue_256 : decode cX11_isTrue 256 = .ok (.iconst 1, 1) := by decide +kernel
theorem dX11_isTrue_257 : decode cX11_isTrue 257 = .ok (.goto 4, 3) := by decide +kernel
theorem dX11_isTrue_260 : decode cX11_isTrue 260 = .ok (.iconst 0, 1) := by decide +kernel
theorem dX11_isTrue_261 : decode cX11_isTrue 261 = .ok (.ireturn, 1) := by decide +kernel
theorem dX11_work_0 : decode cX11_work 0 = .ok (.aload_n 0, 1) := by decide +kernel
theorem dX11_work_1 : decode cX11_work 1 = .ok (.getfield 13, 3) := by decide +kernel
theorem dX11_work_4 : decode cX11_work 4 = .ok (.iload_n 1, 1) := by decide +kernel
theorem dX11_work_5 : decode cX11_work 5 = .ok (.iaload, 1) := by decide +kernel
theorem dX11_work_6 : decode cX11_work 6 = .ok (.istore_n 2, 1) := by decide +kernel
theorem dX11_work_7 : decode cX11_work 7 = .ok (.aload_n 0, 1) := by decide +kernel
theorem dX11_work_8 : decode cX11_work 8 = .ok (.getfield 19, 3) := by decide +kernel
theorem dX11_work_11 : decode cX11_work 11 = .ok (.iload_n 1, 1) := by decide +kernel
theorem dX11_work_12 : decode cX11_work 12 = .ok (.iaload, 1) := by decide +kernel
theorem dX11_work_13 : decode cX11_work 13 = .ok (.ifCond .ge 7, 3) := by decide +kernel
theorem dX11_work_16 : decode cX11_work 16 = .ok (.iconst 0, 1) := by decide +kernel
theorem dX11_work_17 : decode cX11_work 17 = .ok (.goto 14, 3) := by decide +kernel
theorem dX11_work_20 : decode cX11_work 20 = .ok (.aload_n 0, 1) := by decide +kernel
theorem dX11_work_21 : decode cX11_work 21 = .ok (.getfield 71, 3) := by decide +kernel
theorem dX11_work_24 : decode cX11_work 24 = .ok (.aload_n 0, 1) := by decide +kernel
theorem dX11_work_25 : decode cX11_work 25 = .ok (.getfield 19, 3) := by decide +kernel
theorem dX11_work_28 : decode cX11_work 28 = .ok (.iload_n 1, 1) := by decide +kernel
theorem dX11_work_29 : decode cX11_work 29 = .ok (.iaload, 1) := by decide +kernel
theorem dX11_work_30 : decode cX11_work 30 = .ok (.iaload, 1) := by decide +kernel
theorem dX11_work_31 : decode cX11_work 31 = .ok (.istore_n 3, 1) := by decide +kernel
theorem dX11_work_32 : decode cX11_work 32 = .ok (.aload_n 0, 1) := by decide +kernel
theorem dX11_work_33 : decode cX11_work 33 = .ok (.getfield 22, 3) := by decide +kernel
theorem dX11_work_36 : decode cX11_work 36 = .ok (.iload_n 1, 1) := by decide +kernel
theorem dX11_work_37 : decode cX11_work 37 = .ok (.iaload, 1) := by decide +kernel
theorem dX11_work_38 : decode cX11_work 38 = .ok (.ifCond .ge 7, 3) := by decide +kernel
theorem dX11_work_41 : decode cX11_work 41 = .ok (.iconst 0, 1) := by decide +kernel
theorem dX11_work_42 : decode cX11_work 42 = .ok (.goto 14, 3) := by decide +kernel
theorem dX11_work_45 : decode cX11_work 45 = .ok (.aload_n 0, 1) := by decide +kernel
theorem dX11_work_46 : decode cX11_work 46 = .ok (.getfield 71, 3) := by decide +kernel
theorem dX11_work_49 : decode cX11_work 49 = .ok (.aload_n 0, 1) := by decide +kernel
theorem dX11_work_50 : decode cX11_work 50 = .ok (.getfield 22, 3) := by decide +kernel
theorem dX11_work_53 : decode cX11_work 53 = .ok (.iload_n 1, 1) := by decide +kernel
theorem dX11_work_54 : decode cX11_work 54 = .ok (.iaload, 1) := by decide +kernel
theorem dX11_work_55 : decode cX11_work 55 = .ok (.iaload, 1) := by decide +kernel
theorem dX11_work_56 : decode cX11_work 56 = .ok (.istore 4, 2) := by decide +kernel
theorem dX11_work_58 : decode cX11_work 58 = .ok (.aload_n 0, 1) := by decide +kernel
theorem dX11_work_59 : decode cX11_work 59 = .ok (.getfield 25, 3) := by decide +kernel
theorem dX11_work_62 : decode cX11_work 62 = .ok (.iload_n 1, 1) := by decide +kernel
theorem dX11_work_63 : decode cX11_work 63 = .ok (.iaload, 1) := by decide +kernel
theorem dX11_work_64 : decode cX11_work 64 = .ok (.ifCond .ge 7, 3) := by decide +kernel
theorem dX11_work_67 : decode cX11_work 67 = .ok (.iconst 0, 1) := by decide +kernel
theorem dX11_work_68 : decode cX11_work 68 = .ok (.goto 14, 3) := by decide +kernel
theorem dX11_work_71 : decode cX11_work 71 = .ok (.aload_n 0, 1) := by decide +kernel
theorem dX11_work_72 : decode cX11_work 72 = .ok (.getfield 71, 3) := by decide +kernel
theorem dX11_work_75 : decode cX11_work 75 = .ok (.aload_n 0, 1) := by decide +kernel
theorem dX11_work_76 : decode cX11_work 76 = .ok (.getfield 25, 3) := by decide +kernel
theorem dX11_work_79 : decode cX11_work 79 = .ok (.iload_n 1, 1) := by decide +kernel
theorem dX11_work_80 : decode cX11_work 80 = .ok (.iaload, 1) := by decide +kernel
theorem dX11_work_81 : decode cX11_work 81 = .ok (.iaload, 1) := by decide +kernel
theorem dX11_work_82 : decode cX11_work 82 = .ok (.istore 5, 2) := by decide +kernel
theorem dX11_work_84 : decode cX11_work 84 = .ok (.aload_n 0, 1) := by decide +kernel
theorem dX11_work_85 : decode cX11_work 85 = .ok (.getfield 19, 3) := by decide +kernel
theorem dX11_work_88 : decode cX11_work 88 = .ok (.iload_n 1, 1) := by decide +kernel
theorem dX11_work_89 : decode cX11_work 89 = .ok (.iaload, 1) := by decide +kernel
theorem dX11_work_90 : decode cX11_work 90 = .ok (.ifCond .ge 7, 3) := by decide +kernel
theorem dX11_work_93 : decode cX11_work 93 = .ok (.iconst 1, 1) := by decide +kernel
theorem dX11_work_94 : decode cX11_work 94 = .ok (.goto 14, 3) := by decide +kernel
theorem dX11_work_97 : decode cX11_work 97 = .ok (.aload_n 0, 1) := by decide +kernel
theorem dX11_work_98 : decode cX11_work 98 = .ok (.getfield 16, 3) := by decide +kernel
theorem dX11_work_101 : decode cX11_work 101 = .ok (.aload_n 0, 1) := by decide +kernel
theorem dX11_work_102 : decode cX11_work 102 = .ok (.getfield 19, 3) := by decide +kernel
theorem dX11_work_105 : decode cX11_work 105 = .ok (.iload_n 1, 1) := by decide +kernel
theorem dX11_work_106 : decode cX11_work 106 = .ok (.iaload, 1) := by decide +kernel
theorem dX11_work_107 : decode cX11_work 107 = .ok (.iaload, 1) := by decide +kernel
theorem dX11_work_108 : decode cX11_work 108 = .ok (.istore 6, 2) := by decide +kernel
theorem dX11_work_110 : decode cX11_work 110 = .ok (.aload_n 0, 1) := by decide +kernel
theorem dX11_work_111 : decode cX11_work 111 = .ok (.getfield 16, 3) := by decide +kernel
theorem dX11_work_114 : decode cX11_work 114 = .ok (.iload_n 1, 1) := by decide +kernel
theorem dX11_work_115 : decode cX11_work 115 = .ok (.iaload, 1) := by decide +kernel
theorem dX11_work_116 : decode cX11_work 116 = .ok (.istore 7, 2) := by decide +kernel
theorem dX11_work_118 : decode cX11_work 118 = .ok (.iload_n 2, 1) := by decide +kernel
theorem dX11_work_119 : decode cX11_work 119 = .ok (.iconst 1, 1) := by decide +kernel
theorem dX11_work_120 : decode cX11_work 120 = .ok (.if_icmp .eq 8, 3) := by decide +kernel
theorem dX11_work_123 : decode cX11_work 123 = .ok (.iload_n 2, 1) := by decide +kernel
theorem dX11_work_124 : decode cX11_work 124 = .ok (.iconst 2, 1) := by decide +kernel
theorem dX11_work_125 : decode cX11_work 125 = .ok (.if_icmp .ne 14, 3) := by decide +kernel
theorem dX11_work_128 : decode cX11_work 128 = .ok (.iload_n 2, 1) := by decide +kernel
theorem dX11_work_129 : decode cX11_work 129 = .ok (.iconst 1, 1) := by decide +kernel
theorem dX11_work_130 : decode cX11_work 130 = .ok (.if_icmp .ne 7, 3) := by decide +kernel
theorem dX11_work_133 : decode cX11_work 133 = .ok (.iconst 1, 1) := by decide +kernel
theorem dX11_work_134 : decode cX11_work 134 = .ok (.goto 4, 3) := by decide +kernel
theorem dX11_work_137 : decode cX11_work 137 = .ok (.iconst 0, 1) := by decide +kernel
theorem dX11_work_138 : decode cX11_work 138 = .ok (.ireturn, 1) := by decide +kernel
theorem dX11_work_139 : decode cX11_work 139 = .ok (.iload_n 2, 1) := by decide +kernel
theorem dX11_work_140 : decode cX11_work 140 = .ok (.iconst 3, 1) := by decide +kernel
theorem dX11_work_141 : decode cX11_work 141 = .ok (.if_icmp .ne 10, 3) := by decide +kernel
theorem dX11_work_144 : decode cX11_work 144 = .ok (.aload_n 0, 1) := by decide +kernel
theorem dX11_work_145 : decode cX11_work 145 = .ok (.getfield 31, 3) := by decide +kernel
theorem dX11_work_148 : decode cX11_work 148 = .ok (.iload_n 1, 1) := by decide +kernel
theorem dX11_work_149 : decode cX11_work 149 = .ok (.iaload, 1) := by decide +kernel
theorem dX11_work_150 : decode cX11_work 150 = .ok (.ireturn, 1) := by decide +kernel
theorem dX11_work_151 : decode cX11_work 151 = .ok (.iload_n 2, 1) := by decide +kernel
theorem dX11_work_152 : decode cX11_work 152 = .ok (.iconst 4, 1) := by decide +kernel
theorem dX11_work_153 : decode cX11_work 153 = .ok (.bipush 10, 2) := by decide +kernel
theorem dX11_work_155 : decode cX11_work 155 = .ok (.invokestatic 84, 3) := by decide +kernel
theorem dX11_work_158 : decode cX11_work 158 = .ok (.ifCond .ne 14, 3) := by decide +kernel
theorem dX11_work_161 : decode cX11_work 161 = .ok (.iload_n 2, 1) := by decide +kernel
theorem dX11_work_162 : decode cX11_work 162 = .ok (.bipush 25, 2) := by decide +kernel
theorem dX11_work_164 : decode cX11_work 164 = .ok (.bipush 28, 2) := by decide +kernel
theorem dX11_work_166 : decode cX11_work 166 = .ok (.invokestatic 84, 3) := by decide +kernel
theorem dX11_work_169 : decode cX11_work 169 = .ok (.ifCond .eq 21, 3) := by decide +kernel
theorem dX11_work_172 : decode cX11_work 172 = .ok (.iload_n 2, 1) := by decide +kernel
theorem dX11_work_173 : decode cX11_work 173 = .ok (.iload_n 3, 1) := by decide +kernel
theorem dX11_work_174 : decode cX11_work 174 = .ok (.iload 4, 2) := by decide +kernel
theorem dX11_work_176 : decode cX11_work 176 = .ok (.iload 6, 2) := by decide +kernel
theorem dX11_work_178 : decode cX11_work 178 = .ok (.invokestatic 338, 3) := by decide +kernel
theorem dX11_work_181 : decode cX11_work 181 = .ok (.ifCond .eq 7, 3) := by decide +kernel
theorem dX11_work_184 : decode cX11_work 184 = .ok (.iconst 1, 1) := by decide +kernel
theorem dX11_work_185 : decode cX11_work 185 = .ok (.goto 4, 3) := by decide +kernel
theorem dX11_work_188 : decode cX11_work 188 = .ok (.iconst 0, 1) := by decide +kernel
theorem dX11_work_189 : decode cX11_work 189 = .ok (.ireturn, 1) := by decide +kernel
theorem dX11_work_190 : decode cX11_work 190 = .ok (.iload_n 2, 1) := by decide +kernel
theorem dX11_work_191 : decode cX11_work 191 = .ok (.bipush 11, 2) := by decide +kernel
theorem dX11_work_193 : decode cX11_work 193 = .ok (.if_icmp .ne 16, 3) := by decide +kernel
theorem dX11_work_196 : decode cX11_work 196 = .ok (.iload_n 3, 1) := by decide +kernel
theorem dX11_work_197 : decode cX11_work 197 = .ok (.iconst 1, 1) := by decide +kernel
theorem dX11_work_198 : decode cX11_work 198 = .ok (.if_icmp .ne 8, 3) := by decide +kernel
theorem dX11_work_201 : decode cX11_work 201 = .ok (.iload 4, 2) := by decide +kernel
theorem dX11_work_203 : decode cX11_work 203 = .ok (.goto 5, 3) := by decide +kernel
theorem dX11_work_206 : decode cX11_work 206 = .ok (.iload 5, 2) := by decide +kernel
theorem dX11_work_208 : decode cX11_work 208 = .ok (.ireturn, 1) := by decide +kernel
theorem dX11_work_209 : decode cX11_work 209 = .ok (.iload_n 2, 1) := by decide +kernel
theorem dX11_work_210 : decode cX11_work 210 = .ok (.bipush 12, 2) := by decide +kernel
theorem dX11_work_212 : decode cX11_work 212 = .ok (.if_icmp .ne 12, 3) := by decide +kernel
theorem dX11_work_215 : decode cX11_work 215 = .ok (.iconst 1, 1) := by decide +kernel
theorem dX11_work_216 : decode cX11_work 216 = .ok (.iload 7, 2) := by decide +kernel
theorem dX11_work_218 : decode cX11_work 218 = .ok (.ishl, 1) := by decide +kernel
theorem dX11_work_219 : decode cX11_work 219 = .ok (.iconst 1, 1) := by decide +kernel
theorem dX11_work_220 : decode cX11_work 220 = .ok (.isub, 1) := by decide +kernel
theorem dX11_work_221 : decode cX11_work 221 = .ok (.iload_n 3, 1) := by decide +kernel
theorem dX11_work_222 : decode cX11_work 222 = .ok (.isub, 1) := by decide +kernel
theorem dX11_work_223 : decode cX11_work 223 = .ok (.ireturn, 1) := by decide +kernel
theorem dX11_work_224 : decode cX11_work 224 = .ok (.iload_n 2, 1) := by decide +kernel
theorem dX11_work_225 : decode cX11_work 225 = .ok (.bipush 13, 2) := by decide +kernel
theorem dX11_work_227 : decode cX11_work 227 = .ok (.if_icmp .ne 13, 3) := by decide +kernel
theorem dX11_work_230 : decode cX11_work 230 = .ok (.iload_n 3, 1) := by decide +kernel
theorem dX11_work_231 : decode cX11_work 231 = .ok (.ineg, 1) := by decide +kernel
theorem dX11_work_232 : decode cX11_work 232 = .ok (.iconst 1, 1) := by decide +kernel
theorem dX11_work_233 : decode cX11_work 233 = .ok (.iload 7, 2) := by decide +kernel
theorem dX11_work_235 : decode cX11_work 235 = .ok (.ishl, 1) := by decide +kernel
theorem dX11_work_236 : decode cX11_work 236 = .ok (.iconst 1, 1) := by decide +kernel
theorem dX11_work_237 : decode cX11_work 237 = .ok (.isub, 1) := by decide +kernel
theorem dX11_work_238 : decode cX11_work 238 = .ok (.iand, 1) := by decide +kernel
theorem dX11_work_239 : decode cX11_work 239 = .ok (.ireturn, 1) := by decide +kernel
theorem dX11_work_240 : decode cX11_work 240 = .ok (.iload_n 2, 1) := by decide +kernel
theorem dX11_work_241 : decode cX11_work 241 = .ok (.bipush 14, 2) := by decide +kernel
theorem dX11_work_243 : decode cX11_work 243 = .ok (.bipush 24, 2) := by decide +kernel
theorem dX11_work_245 : decode cX11_work 245 = .ok (.invokestatic 84, 3) := by decide +kernel
theorem dX11_work_248 : decode cX11_work 248 = .ok (.ifCond .eq 13, 3) := by decide +kernel
theorem dX11_work_251 : decode cX11_work 251 = .ok (.iload_n 2, 1) := by decide +kernel
theorem dX11_work_252 : decode cX11_work 252 = .ok (.iload_n 3, 1) := by decide +kernel
theorem dX11_work_253 : decode cX11_work 253 = .ok (.iload 4, 2) := by decide +kernel
theorem dX11_work_255 : decode cX11_work 255 = .ok (.iload 7, 2) := by decide +kernel
theorem dX11_work_257 : decode cX11_work 257 = .ok (.invokestatic 342, 3) := by decide +kernel
theorem dX11_work_260 : decode cX11_work 260 = .ok (.ireturn, 1) := by decide +kernel
theorem dX11_work_261 : decode cX11_work 261 = .ok (.iload_n 2, 1) := by decide +kernel
theorem dX11_work_262 : decode cX11_work 262 = .ok (.bipush 29, 2) := by decide +kernel
theorem dX11_work_264 : decode cX11_work 264 = .ok (.if_icmp .ne 20, 3) := by decide +kernel
theorem dX11_work_267 : decode cX11_work 267 = .ok (.iload_n 3, 1) := by decide +kernel
theorem dX11_work_268 : decode cX11_work 268 = .ok (.aload_n 0, 1) := by decide +kernel
theorem dX11_work_269 : decode cX11_work 269 = .ok (.getfield 16, 3) := by decide +kernel
theorem dX11_work_272 : decode cX11_work 272 = .ok (.aload_n 0, 1) := by decide +kernel
theorem dX11_work_273 : decode cX11_work 273 = .ok (.getfield 22, 3) := by decide +kernel
theorem dX11_work_276 : decode cX11_work 276 = .ok (.iload_n 1, 1) := by decide +kernel
theorem dX11_work_277 : decode cX11_work 277 = .ok (.iaload, 1) := by decide +kernel
theorem dX11_work_278 : decode cX11_work 278 = .ok (.iaload, 1) := by decide +kernel
theorem dX11_work_279 : decode cX11_work 279 = .ok (.ishl, 1) := by decide +kernel
theorem dX11_work_280 : decode cX11_work 280 = .ok (.iload 4, 2) := by decide +kernel
theorem dX11_work_282 : decode cX11_work 282 = .ok (.iadd, 1) := by decide +kernel
theorem dX11_work_283 : decode cX11_work 283 = .ok (.ireturn, 1) := by decide +kernel
theorem dX11_work_284 : decode cX11_work 284 = .ok (.iload_n 2, 1) := by decide +kernel
theorem dX11_work_285 : decode cX11_work 285 = .ok (.bipush 30, 2) := by decide +kernel
theorem dX11_work_287 : decode cX11_work 287 = .ok (.if_icmp .ne 19, 3) := by decide +kernel
theorem dX11_work_290 : decode cX11_work 290 = .ok (.iload_n 3, 1) := by decide +kernel
theorem dX11_work_291 : decode cX11_work 291 = .ok (.aload_n 0, 1) := by decide +kernel
theorem dX11_work_292 : decode cX11_work 292 = .ok (.getfield 31, 3) := by decide +kernel
theorem dX11_work_295 : decode cX11_work 295 = .ok (.iload_n 1, 1) := by decide +kernel
theorem dX11_work_296 : decode cX11_work 296 = .ok (.iaload, 1) := by decide +kernel
theorem dX11_work_297 : decode cX11_work 297 = .ok (.ishr, 1) := by decide +kernel
theorem dX11_work_298 : decode cX11_work 298 = .ok (.iconst 1, 1) := by decide +kernel
theorem dX11_work_299 : decode cX11_work 299 = .ok (.iload 7, 2) := by decide +kernel
theorem dX11_work_301 : decode cX11_work 301 = .ok (.ishl, 1) := by decide +kernel
theorem dX11_work_302 : decode cX11_work 302 = .ok (.iconst 1, 1) := by decide +kernel
theorem dX11_work_303 : decode cX11_work 303 = .ok (.isub, 1) := by decide +kernel
theorem dX11_work_304 : decode cX11_work 304 = .ok (.iand, 1) := by decide +kernel
theorem dX11_work_305 : decode cX11_work 305 = .ok (.ireturn, 1) := by decide +kernel
theorem dX11_work_306 : decode cX11_work 306 = .ok (.iload_n 2, 1) := by decide +kernel
theorem dX11_work_307 : decode cX11_work 307 = .ok (.bipush 31, 2) := by decide +kernel
theorem dX11_work_309 : decode cX11_work 309 = .ok (.if_icmp .ne 5, 3) := by decide +kernel
theorem dX11_work_312 : decode cX11_work 312 = .ok (.iload_n 3, 1) := by decide +kernel
theorem dX11_work_313 : decode cX11_work 313 = .ok (.ireturn, 1) := by decide +kernel
theorem dX11_work_314 : decode cX11_work 314 = .ok (.iload_n 2, 1) := by decide +kernel
theorem dX11_work_315 : decode cX11_work 315 = .ok (.bipush 32, 2) := by decide +kernel
theorem dX11_work_317 : decode cX11_work 317 = .ok (.if_icmp .ne 17, 3) := by decide +kernel
theorem dX11_work_320 : decode cX11_work 320 = .ok (.iload_n 3, 1) := by decide +kernel
theorem dX11_work_321 : decode cX11_work 321 = .ok (.iload 6, 2) := by decide +kernel
theorem dX11_work_323 : decode cX11_work 323 = .ok (.invokestatic 335, 3) := by decide +kernel
theorem dX11_work_326 : decode cX11_work 326 = .ok (.iconst 1, 1) := by decide +kernel
theorem dX11_work_327 : decode cX11_work 327 = .ok (.iload 7, 2) := by decide +kernel
theorem dX11_work_329 : decode cX11_work 329 = .ok (.ishl, 1) := by decide +kernel
theorem dX11_work_330 : decode cX11_work 330 = .ok (.iconst 1, 1) := by decide +kernel
theorem dX11_work_331 : decode cX11_work 331 = .ok (.isub, 1) := by decide +kernel
theorem dX11_work_332 : decode cX11_work 332 = .ok (.iand, 1) := by decide +kernel
theorem dX11_work_333 : decode cX11_work 333 = .ok (.ireturn, 1) := by decide +kernel
theorem dX11_work_334 : decode cX11_work 334 = .ok (.iload 6, 2) := by decide +kernel
theorem dX11_work_336 : decode cX11_work 336 = .ok (.iconst 4, 1) := by decide +kernel
theorem dX11_work_337 : decode cX11_work 337 = .ok (.isub, 1) := by decide +kernel
theorem dX11_work_338 : decode cX11_work 338 = .ok (.istore 8, 2) := by decide +kernel
theorem dX11_work_340 : decode cX11_work 340 = .ok (.iload_n 2, 1) := by decide +kernel
theorem dX11_work_341 : decode cX11_work 341 = .ok (.bipush 33, 2) := by decide +kernel
theorem dX11_work_343 : decode cX11_work 343 = .ok (.if_icmp .ne 24, 3) := by decide +kernel
theorem dX11_work_346 : decode cX11_work 346 = .ok (.iload 4, 2) := by decide +kernel
theorem dX11_work_348 : decode cX11_work 348 = .ok (.ifCond .ne 14, 3) := by decide +kernel
theorem dX11_work_351 : decode cX11_work 351 = .ok (.iload_n 3, 1) := by decide +kernel
theorem dX11_work_352 : decode cX11_work 352 = .ok (.iconst 1, 1) := by decide +kernel
theorem dX11_work_353 : decode cX11_work 353 = .ok (.iload 8, 2) := by decide +kernel
theorem dX11_work_355 : decode cX11_work 355 = .ok (.ishl, 1) := by decide +kernel
theorem dX11_work_356 : decode cX11_work 356 = .ok (.iconst 1, 1) := by decide +kernel
theorem dX11_work_357 : decode cX11_work 357 = .ok (.isub, 1) := by decide +kernel
theorem dX11_work_358 : decode cX11_work 358 = .ok (.iand, 1) := by decide +kernel
theorem dX11_work_359 : decode cX11_work 359 = .ok (.goto 7, 3) := by decide +kernel
theorem dX11_work_362 : decode cX11_work 362 = .ok (.iload_n 3, 1) := by decide +kernel
theorem dX11_work_363 : decode cX11_work 363 = .ok (.iload 8, 2) := by decide +kernel
theorem dX11_work_365 : decode cX11_work 365 = .ok (.ishr, 1) := by decide +kernel
theorem dX11_work_366 : decode cX11_work 366 = .ok (.ireturn, 1) := by decide +kernel
theorem dX11_work_367 : decode cX11_work 367 = .ok (.iload 4, 2) := by decide +kernel
theorem dX11_work_369 : decode cX11_work 369 = .ok (.ifCond .ne 8, 3) := by decide +kernel
theorem dX11_work_372 : decode cX11_work 372 = .ok (.iload 5, 2) := by decide +kernel
theorem dX11_work_374 : decode cX11_work 374 = .ok (.goto 11, 3) := by decide +kernel
theorem dX11_work_377 : decode cX11_work 377 = .ok (.iload_n 3, 1) := by decide +kernel
theorem dX11_work_378 : decode cX11_work 378 = .ok (.iconst 1, 1) := by decide +kernel
theorem dX11_work_379 : decode cX11_work 379 = .ok (.iload 8, 2) := by decide +kernel
theorem dX11_work_381 : decode cX11_work 381 = .ok (.ishl, 1) := by decide +kernel
theorem dX11_work_382 : decode cX11_work 382 = .ok (.iconst 1, 1) := by decide +kernel
theorem dX11_work_383 : decode cX11_work 383 = .ok (.isub, 1) := by decide +kernel
theorem dX11_work_384 : decode cX11_work 384 = .ok (.iand, 1) := by decide +kernel
theorem dX11_work_385 : decode cX11_work 385 = .ok (.istore 9, 2) := by decide +kernel
theorem dX11_work_387 : decode cX11_work 387 = .ok (.iload 4, 2) := by decide +kernel
theorem dX11_work_389 : decode cX11_work 389 = .ok (.iconst 1, 1) := by decide +kernel
theorem dX11_work_390 : decode cX11_work 390 = .ok (.if_icmp .ne 8, 3) := by decide +kernel
theorem dX11_work_393 : decode cX11_work 393 = .ok (.iload 5, 2) := by decide +kernel
theorem dX11_work_395 : decode cX11_work 395 = .ok (.goto 7, 3) := by decide +kernel
theorem dX11_work_398 : decode cX11_work 398 = .ok (.iload_n 3, 1) := by decide +kernel
theorem dX11_work_399 : decode cX11_work 399 = .ok (.iload 8, 2) := by decide +kernel
theorem dX11_work_401 : decode cX11_work 401 = .ok (.ishr, 1) := by decide +kernel
theorem dX11_work_402 : decode cX11_work 402 = .ok (.istore 10, 2) := by decide +kernel
theorem dX11_work_404 : decode cX11_work 404 = .ok (.iload 9, 2) := by decide +kernel
theorem dX11_work_406 : decode cX11_work 406 = .ok (.iload 10, 2) := by decide +kernel
theorem dX11_work_408 : decode cX11_work 408 = .ok (.iload 8, 2) := by decide +kernel
theorem dX11_work_410 : decode cX11_work 410 = .ok (.ishl, 1) := by decide +kernel
theorem dX11_work_411 : decode cX11_work 411 = .ok (.iadd, 1) := by decide +kernel
theorem dX11_work_412 : decode cX11_work 412 = .ok (.ireturn, 1) := by decide +kernel
theorem dX11_workAll_0 : decode cX11_workAll 0 = .ok (.iconst 0, 1) := by decide +kernel
theorem dX11_workAll_1 : decode cX11_workAll 1 = .ok (.istore_n 1, 1) := by decide +kernel
theorem dX11_workAll_2 : decode cX11_workAll 2 = .ok (.iload_n 1, 1) := by decide +kernel
theorem dX11_workAll_3 : decode cX11_workAll 3 = .ok (.aload_n 0, 1) := by decide +kernel
theorem dX11_workAll_4 : decode cX11_workAll 4 = .ok (.getfield 326, 3) := by decide +kernel
theorem dX11_workAll_7 : decode cX11_workAll 7 = .ok (.if_icmp .ge 29, 3) := by decide +kernel
theorem dX11_workAll_10 : decode cX11_workAll 10 = .ok (.aload_n 0, 1) := by decide +kernel
theorem dX11_workAll_11 : decode cX11_workAll 11 = .ok (.getfield 13, 3) := by decide +kernel
theorem dX11_workAll_14 : decode cX11_workAll 14 = .ok (.iload_n 1, 1) := by decide +kernel
theorem dX11_workAll_15 : decode cX11_workAll 15 = .ok (.iaload, 1) := by decide +kernel
theorem dX11_workAll_16 : decode cX11_workAll 16 = .ok (.ifCond .eq 14, 3) := by decide +kernel
theorem dX11_workAll_19 : decode cX11_workAll 19 = .ok (.aload_n 0, 1) := by decide +kernel
theorem dX11_workAll_20 : decode cX11_workAll 20 = .ok (.getfield 71, 3) := by decide +kernel
theorem dX11_workAll_23 : decode cX11_workAll 23 = .ok (.iload_n 1, 1) := by decide +kernel
theorem dX11_workAll_24 : decode cX11_workAll 24 = .ok (.aload_n 0, 1) := by decide +kernel
theorem dX11_workAll_25 : decode cX11_workAll 25 = .ok (.iload_n 1, 1) := by decide +kernel
theorem dX11_workAll_26 : decode cX11_workAll 26 = .ok (.invokevirtual 346, 3) := by decide +kernel
theorem dX11_workAll_29 : decode cX11_workAll 29 = .ok (.iastore, 1) := by decide +kernel
theorem dX11_workAll_30 : decode cX11_workAll 30 = .ok (.iinc 1 1, 3) := by decide +kernel
theorem dX11_workAll_33 : decode cX11_workAll 33 = .ok (.goto (-31), 3) := by decide +kernel
theorem dX11_workAll_36 : decode cX11_workAll 36 = .ok (.return_, 1) := by decide +kernel
theorem dX11_holds_0 : decode cX11_holds 0 = .ok (.iload_n 1, 1) := by decide +kernel
theorem dX11_holds_1 : decode cX11_holds 1 = .ok (.iconst 0, 1) := by decide +kernel
theorem dX11_holds_2 : decode cX11_holds 2 = .ok (.aload_n 0, 1) := by decide +kernel
theorem dX11_holds_3 : decode cX11_holds 3 = .ok (.getfield 302, 3) := by decide +kernel
theorem dX11_holds_6 : decode cX11_holds 6 = .ok (.iconst 1, 1) := by decide +kernel
theorem dX11_holds_7 : decode cX11_holds 7 = .ok (.isub, 1) := by decide +kernel
theorem dX11_holds_8 : decode cX11_holds 8 = .ok (.invokestatic 84, 3) := by decide +kernel
theorem dX11_holds_11 : decode cX11_holds 11 = .ok (.ifCond .ne 5, 3) := by decide +kernel
theorem dX11_holds_14 : decode cX11_holds 14 = .ok (.iconst (-1), 1) := by decide +kernel
theorem dX11_holds_15 : decode cX11_holds 15 = .ok (.ireturn, 1) := by decide +kernel
theorem dX11_holds_16 : decode cX11_holds 16 = .ok (.iload_n 2, 1) := by decide +kernel
theorem dX11_holds_17 : decode cX11_holds 17 = .ok (.istore_n 3, 1) := by decide +kernel
theorem dX11_holds_18 : decode cX11_holds 18 = .ok (.iconst 0, 1) := by decide +kernel
theorem dX11_holds_19 : decode cX11_holds 19 = .ok (.istore 4, 2) := by decide +kernel
theorem dX11_holds_21 : decode cX11_holds 21 = .ok (.iload 4, 2) := by decide +kernel
theorem dX11_holds_23 : decode cX11_holds 23 = .ok (.aload_n 0, 1) := by decide +kernel
theorem dX11_holds_24 : decode cX11_holds 24 = .ok (.getfield 228, 3) := by decide +kernel
theorem dX11_holds_27 : decode cX11_holds 27 = .ok (.if_icmp .ge 51, 3) := by decide +kernel
theorem dX11_holds_30 : decode cX11_holds 30 = .ok (.aload_n 0, 1) := by decide +kernel
theorem dX11_holds_31 : decode cX11_holds 31 = .ok (.getfield 16, 3) := by decide +kernel
theorem dX11_holds_34 : decode cX11_holds 34 = .ok (.aload_n 0, 1) := by decide +kernel
theorem dX11_holds_35 : decode cX11_holds 35 = .ok (.getfield 59, 3) := by decide +kernel
theorem dX11_holds_38 : decode cX11_holds 38 = .ok (.iload 4, 2) := by decide +kernel
theorem dX11_holds_40 : decode cX11_holds 40 = .ok (.iaload, 1) := by decide +kernel
theorem dX11_holds_41 : decode cX11_holds 41 = .ok (.iaload, 1) := by decide +kernel
theorem dX11_holds_42 : decode cX11_holds 42 = .ok (.invokestatic 278, 3) := by decide +kernel
theorem dX11_holds_45 : decode cX11_holds 45 = .ok (.istore 5, 2) := by decide +kernel
theorem dX11_holds_47 : decode cX11_holds 47 = .ok (.aload_n 0, 1) := by decide +kernel
theorem dX11_holds_48 : decode cX11_holds 48 = .ok (.getfield 71, 3) := by decide +kernel
theorem dX11_holds_51 : decode cX11_holds 51 = .ok (.aload_n 0, 1) := by decide +kernel
theorem dX11_holds_52 : decode cX11_holds 52 = .ok (.getfield 59, 3) := by decide +kernel
theorem dX11_holds_55 : decode cX11_holds 55 = .ok (.iload 4, 2) := by decide +kernel
theorem dX11_holds_57 : decode cX11_holds 57 = .ok (.iaload, 1) := by decide +kernel
theorem dX11_holds_58 : decode cX11_holds 58 = .ok (.iload_n 3, 1) := by decide +kernel
theorem dX11_holds_59 : decode cX11_holds 59 = .ok (.iconst 1, 1) := by decide +kernel
theorem dX11_holds_60 : decode cX11_holds 60 = .ok (.iload 5, 2) := by decide +kernel
theorem dX11_holds_62 : decode cX11_holds 62 = .ok (.ishl, 1) := by decide +kernel
theorem dX11_holds_63 : decode cX11_holds 63 = .ok (.iconst 1, 1) := by decide +kernel
theorem dX11_holds_64 : decode cX11_holds 64 = .ok (.isub, 1) := by decide +kernel
theorem dX11_holds_65 : decode cX11_holds 65 = .ok (.iand, 1) := by decide +kernel
theorem dX11_holds_66 : decode cX11_holds 66 = .ok (.iastore, 1) := by decide +kernel
theorem dX11_holds_67 : decode cX11_holds 67 = .ok (.iload_n 3, 1) := by decide +kernel
theorem dX11_holds_68 : decode cX11_holds 68 = .ok (.iload 5, 2) := by decide +kernel
theorem dX11_holds_70 : decode cX11_holds 70 = .ok (.ishr, 1) := by decide +kernel
theorem dX11_holds_71 : decode cX11_holds 71 = .ok (.istore_n 3, 1) := by decide +kernel
theorem dX11_holds_72 : decode cX11_holds 72 = .ok (.iinc 4 1, 3) := by decide +kernel
theorem dX11_holds_75 : decode cX11_holds 75 = .ok (.goto (-54), 3) := by decide +kernel
theorem dX11_holds_78 : decode cX11_holds 78 = .ok (.aload_n 0, 1) := by decide +kernel
theorem dX11_holds_79 : decode cX11_holds 79 = .ok (.invokevirtual 349, 3) := by decide +kernel
theorem dX11_holds_82 : decode cX11_holds 82 = .ok (.aload_n 0, 1) := by decide +kernel
theorem dX11_holds_83 : decode cX11_holds 83 = .ok (.getfield 71, 3) := by decide +kernel
theorem dX11_holds_86 : decode cX11_holds 86 = .ok (.aload_n 0, 1) := by decide +kernel
theorem dX11_holds_87 : decode cX11_holds 87 = .ok (.getfield 62, 3) := by decide +kernel
theorem dX11_holds_90 : decode cX11_holds 90 = .ok (.iload_n 1, 1) := by decide +kernel
theorem dX11_holds_91 : decode cX11_holds 91 = .ok (.iaload, 1) := by decide +kernel
theorem dX11_holds_92 : decode cX11_holds 92 = .ok (.iaload, 1) := by decide +kernel
theorem dX11_holds_93 : decode cX11_holds 93 = .ok (.ireturn, 1) := by decide +kernel
theorem dX11_deal_0 : decode cX11_deal 0 = .ok (.iload_n 2, 1) := by decide +kernel
theorem dX11_deal_1 : decode cX11_deal 1 = .ok (.istore_n 3, 1) := by decide +kernel
theorem dX11_deal_2 : decode cX11_deal 2 = .ok (.iconst 0, 1) := by decide +kernel
theorem dX11_deal_3 : decode cX11_deal 3 = .ok (.istore 4, 2) := by decide +kernel
theorem dX11_deal_5 : decode cX11_deal 5 = .ok (.iload 4, 2) := by decide +kernel
theorem dX11_deal_7 : decode cX11_deal 7 = .ok (.aload_n 0, 1) := by decide +kernel
theorem dX11_deal_8 : decode cX11_deal 8 = .ok (.getfield 228, 3) := by decide +kernel
theorem dX11_deal_11 : decode cX11_deal 11 = .ok (.if_icmp .ge 53, 3) := by decide +kernel
theorem dX11_deal_14 : decode cX11_deal 14 = .ok (.aload_n 0, 1) := by decide +kernel
theorem dX11_deal_15 : decode cX11_deal 15 = .ok (.getfield 16, 3) := by decide +kernel
theorem dX11_deal_18 : decode cX11_deal 18 = .ok (.aload_n 0, 1) := by decide +kernel
theorem dX11_deal_19 : decode cX11_deal 19 = .ok (.getfield 59, 3) := by decide +kernel
theorem dX11_deal_22 : decode cX11_deal 22 = .ok (.iload 4, 2) := by decide +kernel
theorem dX11_deal_24 : decode cX11_deal 24 = .ok (.iaload, 1) := by decide +kernel
theorem dX11_deal_25 : decode cX11_deal 25 = .ok (.iaload, 1) := by decide +kernel
theorem dX11_deal_26 : decode cX11_deal 26 = .ok (.invokestatic 278, 3) := by decide +kernel
theorem dX11_deal_29 : decode cX11_deal 29 = .ok (.istore 5, 2) := by decide +kernel
theorem dX11_deal_31 : decode cX11_deal 31 = .ok (.iload_n 3, 1) := by decide +kernel
theorem dX11_deal_32 : decode cX11_deal 32 = .ok (.iload 5, 2) := by decide +kernel
theorem dX11_deal_34 : decode cX11_deal 34 = .ok (.isub, 1) := by decide +kernel
theorem dX11_deal_35 : decode cX11_deal 35 = .ok (.istore_n 3, 1) := by decide +kernel
theorem dX11_deal_36 : decode cX11_deal 36 = .ok (.aload_n 0, 1) := by decide +kernel
theorem dX11_deal_37 : decode cX11_deal 37 = .ok (.getfield 71, 3) := by decide +kernel
theorem dX11_deal_40 : decode cX11_deal 40 = .ok (.aload_n 0, 1) := by decide +kernel
theorem dX11_deal_41 : decode cX11_deal 41 = .ok (.getfield 59, 3) := by decide +kernel
theorem dX11_deal_44 : decode cX11_deal 44 = .ok (.iload 4, 2) := by decide +kernel
theorem dX11_deal_46 : decode cX11_deal 46 = .ok (.iaload, 1) := by decide +kernel
theorem dX11_deal_47 : decode cX11_deal 47 = .ok (.iload_n 1, 1) := by decide +kernel
theorem dX11_deal_48 : decode cX11_deal 48 = .ok (.iload_n 3, 1) := by decide +kernel
theorem dX11_deal_49 : decode cX11_deal 49 = .ok (.ishr, 1) := by decide +kernel
theorem dX11_deal_50 : decode cX11_deal 50 = .ok (.iconst 1, 1) := by decide +kernel
theorem dX11_deal_51 : decode cX11_deal 51 = .ok (.iload 5, 2) := by decide +kernel
theorem dX11_deal_53 : decode cX11_deal 53 = .ok (.ishl, 1) := by decide +kernel
theorem dX11_deal_54 : decode cX11_deal 54 = .ok (.iconst 1, 1) := by decide +kernel
theorem dX11_deal_55 : decode cX11_deal 55 = .ok (.isub, 1) := by decide +kernel
theorem dX11_deal_56 : decode cX11_deal 56 = .ok (.iand, 1) := by decide +kernel
theorem dX11_deal_57 : decode cX11_deal 57 = .ok (.iastore, 1) := by decide +kernel
theorem dX11_deal_58 : decode cX11_deal 58 = .ok (.iinc 4 1, 3) := by decide +kernel
theorem dX11_deal_61 : decode cX11_deal 61 = .ok (.goto (-56), 3) := by decide +kernel
theorem dX11_deal_64 : decode cX11_deal 64 = .ok (.return_, 1) := by decide +kernel
theorem dX11_least_0 : decode cX11_least 0 = .ok (.iconst (-1), 1) := by decide +kernel
theorem dX11_least_1 : decode cX11_least 1 = .ok (.istore_n 2, 1) := by decide +kernel
theorem dX11_least_2 : decode cX11_least 2 = .ok (.iconst 1, 1) := by decide +kernel
theorem dX11_least_3 : decode cX11_least 3 = .ok (.iload_n 1, 1) := by decide +kernel
theorem dX11_least_4 : decode cX11_least 4 = .ok (.ishl, 1) := by decide +kernel
theorem dX11_least_5 : decode cX11_least 5 = .ok (.iconst 1, 1) := by decide +kernel
theorem dX11_least_6 : decode cX11_least 6 = .ok (.isub, 1) := by decide +kernel
theorem dX11_least_7 : decode cX11_least 7 = .ok (.istore_n 3, 1) := by decide +kernel
theorem dX11_least_8 : decode cX11_least 8 = .ok (.iload_n 3, 1) := by decide +kernel
theorem dX11_least_9 : decode cX11_least 9 = .ok (.ifCond .lt 79, 3) := by decide +kernel
theorem dX11_least_12 : decode cX11_least 12 = .ok (.iconst 1, 1) := by decide +kernel
theorem dX11_least_13 : decode cX11_least 13 = .ok (.istore 4, 2) := by decide +kernel
theorem dX11_least_15 : decode cX11_least 15 = .ok (.iconst 0, 1) := by decide +kernel
theorem dX11_least_16 : decode cX11_least 16 = .ok (.istore 5, 2) := by decide +kernel
theorem dX11_least_18 : decode cX11_least 18 = .ok (.iload 5, 2) := by decide +kernel
theorem dX11_least_20 : decode cX11_least 20 = .ok (.aload_n 0, 1) := by decide +kernel
theorem dX11_least_21 : decode cX11_least 21 = .ok (.getfield 302, 3) := by decide +kernel
theorem dX11_least_24 : decode cX11_least 24 = .ok (.if_icmp .ge 47, 3) := by decide +kernel
theorem dX11_least_27 : decode cX11_least 27 = .ok (.iload 4, 2) := by decide +kernel
theorem dX11_least_29 : decode cX11_least 29 = .ok (.ifCond .eq 33, 3) := by decide +kernel
theorem dX11_least_32 : decode cX11_least 32 = .ok (.aload_n 0, 1) := by decide +kernel
theorem dX11_least_33 : decode cX11_least 33 = .ok (.getfield 81, 3) := by decide +kernel
theorem dX11_least_36 : decode cX11_least 36 = .ok (.iload 5, 2) := by decide +kernel
theorem dX11_least_38 : decode cX11_least 38 = .ok (.baload, 1) := by decide +kernel
theorem dX11_least_39 : decode cX11_least 39 = .ok (.ifCond .eq 19, 3) := by decide +kernel
theorem dX11_least_42 : decode cX11_least 42 = .ok (.aload_n 0, 1) := by decide +kernel
theorem dX11_least_43 : decode cX11_least 43 = .ok (.getfield 74, 3) := by decide +kernel
theorem dX11_least_46 : decode cX11_least 46 = .ok (.sipush 256, 3) := by decide +kernel
theorem dX11_least_49 : decode cX11_least 49 = .ok (.iload 5, 2) := by decide +kernel
theorem dX11_least_51 : decode cX11_least 51 = .ok (.imul, 1) := by decide +kernel
theorem dX11_least_52 : decode cX11_least 52 = .ok (.iload_n 3, 1) := by decide +kernel
theorem dX11_least_53 : decode cX11_least 53 = .ok (.iadd, 1) := by decide +kernel
theorem dX11_least_54 : decode cX11_least 54 = .ok (.baload, 1) := by decide +kernel
theorem dX11_least_55 : decode cX11_least 55 = .ok (.ifCond .eq 7, 3) := by decide +kernel
theorem dX11_least_58 : decode cX11_least 58 = .ok (.iconst 1, 1) := by decide +kernel
theorem dX11_least_59 : decode cX11_least 59 = .ok (.goto 4, 3) := by decide +kernel
theorem dX11_least_62 : decode cX11_least 62 = .ok (.iconst 0, 1) := by decide +kernel
theorem dX11_least_63 : decode cX11_least 63 = .ok (.istore 4, 2) := by decide +kernel
theorem dX11_least_65 : decode cX11_least 65 = .ok (.iinc 5 1, 3) := by decide +kernel
theorem dX11_least_68 : decode cX11_least 68 = .ok (.goto (-50), 3) := by decide +kernel
theorem dX11_least_71 : decode cX11_least 71 = .ok (.iload 4, 2) := by decide +kernel
theorem dX11_least_73 : decode cX11_least 73 = .ok (.ifCond .eq 7, 3) := by decide +kernel
theorem dX11_least_76 : decode cX11_least 76 = .ok (.iload_n 3, 1) := by decide +kernel
theorem dX11_least_77 : decode cX11_least 77 = .ok (.goto 4, 3) := by decide +kernel
theorem dX11_least_80 : decode cX11_least 80 = .ok (.iload_n 2, 1) := by decide +kernel
theorem dX11_least_81 : decode cX11_least 81 = .ok (.istore_n 2, 1) := by decide +kernel
theorem dX11_least_82 : decode cX11_least 82 = .ok (.iinc 3 (-1), 3) := by decide +kernel
theorem dX11_least_85 : decode cX11_least 85 = .ok (.goto (-77), 3) := by decide +kernel
theorem dX11_least_88 : decode cX11_least 88 = .ok (.iload_n 2, 1) := by decide +kernel
theorem dX11_least_89 : decode cX11_least 89 = .ok (.ireturn, 1) := by decide +kernel
theorem dX11_check_0 : decode cX11_check 0 = .ok (.aload_n 0, 1) := by decide +kernel
theorem dX11_check_1 : decode cX11_check 1 = .ok (.invokevirtual 290, 3) := by decide +kernel
theorem dX11_check_4 : decode cX11_check 4 = .ok (.istore_n 1, 1) := by decide +kernel
theorem dX11_check_5 : decode cX11_check 5 = .ok (.iconst 0, 1) := by decide +kernel
theorem dX11_check_6 : decode cX11_check 6 = .ok (.istore_n 2, 1) := by decide +kernel
theorem dX11_check_7 : decode cX11_check 7 = .ok (.iload_n 2, 1) := by decide +kernel
theorem dX11_check_8 : decode cX11_check 8 = .ok (.iconst 1, 1) := by decide +kernel
theorem dX11_check_9 : decode cX11_check 9 = .ok (.iload_n 1, 1) := by decide +kernel
theorem dX11_check_10 : decode cX11_check 10 = .ok (.ishl, 1) := by decide +kernel
theorem dX11_check_11 : decode cX11_check 11 = .ok (.if_icmp .ge 67, 3) := by decide +kernel
theorem dX11_check_14 : decode cX11_check 14 = .ok (.aload_n 0, 1) := by decide +kernel
theorem dX11_check_15 : decode cX11_check 15 = .ok (.iload_n 2, 1) := by decide +kernel
theorem dX11_check_16 : decode cX11_check 16 = .ok (.iload_n 1, 1) := by decide +kernel
theorem dX11_check_17 : decode cX11_check 17 = .ok (.invokevirtual 352, 3) := by decide +kernel
theorem dX11_check_20 : decode cX11_check 20 = .ok (.aload_n 0, 1) := by decide +kernel
theorem dX11_check_21 : decode cX11_check 21 = .ok (.invokevirtual 349, 3) := by decide +kernel
theorem dX11_check_24 : decode cX11_check 24 = .ok (.iconst 0, 1) := by decide +kernel
theorem dX11_check_25 : decode cX11_check 25 = .ok (.istore_n 3, 1) := by decide +kernel
theorem dX11_check_26 : decode cX11_check 26 = .ok (.iload_n 3, 1) := by decide +kernel
theorem dX11_check_27 : decode cX11_check 27 = .ok (.aload_n 0, 1) := by decide +kernel
theorem dX11_check_28 : decode cX11_check 28 = .ok (.getfield 302, 3) := by decide +kernel
theorem dX11_check_31 : decode cX11_check 31 = .ok (.if_icmp .ge 41, 3) := by decide +kernel
theorem dX11_check_34 : decode cX11_check 34 = .ok (.aload_n 0, 1) := by decide +kernel
theorem dX11_check_35 : decode cX11_check 35 = .ok (.getfield 74, 3) := by decide +kernel
theorem dX11_check_38 : decode cX11_check 38 = .ok (.sipush 256, 3) := by decide +kernel
theorem dX11_check_41 : decode cX11_check 41 = .ok (.iload_n 3, 1) := by decide +kernel
theorem dX11_check_42 : decode cX11_check 42 = .ok (.imul, 1) := by decide +kernel
theorem dX11_check_43 : decode cX11_check 43 = .ok (.iload_n 2, 1) := by decide +kernel
theorem dX11_check_44 : decode cX11_check 44 = .ok (.iadd, 1) := by decide +kernel
theorem dX11_check_45 : decode cX11_check 45 = .ok (.aload_n 0, 1) := by decide +kernel
theorem dX11_check_46 : decode cX11_check 46 = .ok (.getfield 71, 3) := by decide +kernel
theorem dX11_check_49 : decode cX11_check 49 = .ok (.aload_n 0, 1) := by decide +kernel
theorem dX11_check_50 : decode cX11_check 50 = .ok (.getfield 62, 3) := by decide +kernel
theorem dX11_check_53 : decode cX11_check 53 = .ok (.iload_n 3, 1) := by decide +kernel
theorem dX11_check_54 : decode cX11_check 54 = .ok (.iaload, 1) := by decide +kernel
theorem dX11_check_55 : decode cX11_check 55 = .ok (.iaload, 1) := by decide +kernel
theorem dX11_check_56 : decode cX11_check 56 = .ok (.iconst 1, 1) := by decide +kernel
theorem dX11_check_57 : decode cX11_check 57 = .ok (.if_icmp .ne 7, 3) := by decide +kernel
theorem dX11_check_60 : decode cX11_check 60 = .ok (.iconst 1, 1) := by decide +kernel
theorem dX11_check_61 : decode cX11_check 61 = .ok (.goto 4, 3) := by decide +kernel
theorem dX11_check_64 : decode cX11_check 64 = .ok (.iconst 0, 1) := by decide +kernel
theorem dX11_check_65 : decode cX11_check 65 = .ok (.bastore, 1) := by decide +kernel
theorem dX11_check_66 : decode cX11_check 66 = .ok (.iinc 3 1, 3) := by decide +kernel
theorem dX11_check_69 : decode cX11_check 69 = .ok (.goto (-43), 3) := by decide +kernel
theorem dX11_check_72 : decode cX11_check 72 = .ok (.iinc 2 1, 3) := by decide +kernel
theorem dX11_check_75 : decode cX11_check 75 = .ok (.goto (-68), 3) := by decide +kernel
theorem dX11_check_78 : decode cX11_check 78 = .ok (.iconst 0, 1) := by decide +kernel
theorem dX11_check_79 : decode cX11_check 79 = .ok (.istore_n 2, 1) := by decide +kernel
theorem dX11_check_80 : decode cX11_check 80 = .ok (.iload_n 2, 1) := by decide +kernel
theorem dX11_check_81 : decode cX11_check 81 = .ok (.bipush 12, 2) := by decide +kernel
theorem dX11_check_83 : decode cX11_check 83 = .ok (.if_icmp .ge 28, 3) := by decide +kernel
theorem dX11_check_86 : decode cX11_check 86 = .ok (.aload_n 0, 1) := by decide +kernel
theorem dX11_check_87 : decode cX11_check 87 = .ok (.getfield 81, 3) := by decide +kernel
theorem dX11_check_90 : decode cX11_check 90 = .ok (.iload_n 2, 1) := by decide +kernel
theorem dX11_check_91 : decode cX11_check 91 = .ok (.iload_n 2, 1) := by decide +kernel
theorem dX11_check_92 : decode cX11_check 92 = .ok (.aload_n 0, 1) := by decide +kernel
theorem dX11_check_93 : decode cX11_check 93 = .ok (.getfield 302, 3) := by decide +kernel
theorem dX11_check_96 : decode cX11_check 96 = .ok (.if_icmp .ge 7, 3) := by decide +kernel
theorem dX11_check_99 : decode cX11_check 99 = .ok (.iconst 1, 1) := by decide +kernel
theorem dX11_check_100 : decode cX11_check 100 = .ok (.goto 4, 3) := by decide +kernel
theorem dX11_check_103 : decode cX11_check 103 = .ok (.iconst 0, 1) := by decide +kernel
theorem dX11_check_104 : decode cX11_check 104 = .ok (.bastore, 1) := by decide +kernel
theorem dX11_check_105 : decode cX11_check 105 = .ok (.iinc 2 1, 3) := by decide +kernel
theorem dX11_check_108 : decode cX11_check 108 = .ok (.goto (-28), 3) := by decide +kernel
theorem dX11_check_111 : decode cX11_check 111 = .ok (.aload_n 0, 1) := by decide +kernel
theorem dX11_check_112 : decode cX11_check 112 = .ok (.iload_n 1, 1) := by decide +kernel
theorem dX11_check_113 : decode cX11_check 113 = .ok (.invokevirtual 355, 3) := by decide +kernel
theorem dX11_check_116 : decode cX11_check 116 = .ok (.istore_n 2, 1) := by decide +kernel
theorem dX11_check_117 : decode cX11_check 117 = .ok (.iload_n 2, 1) := by decide +kernel
theorem dX11_check_118 : decode cX11_check 118 = .ok (.ifCond .lt 49, 3) := by decide +kernel
theorem dX11_check_121 : decode cX11_check 121 = .ok (.aload_n 0, 1) := by decide +kernel
theorem dX11_check_122 : decode cX11_check 122 = .ok (.iconst 1, 1) := by decide +kernel
theorem dX11_check_123 : decode cX11_check 123 = .ok (.putfield 332, 3) := by decide +kernel
theorem dX11_check_126 : decode cX11_check 126 = .ok (.aload_n 0, 1) := by decide +kernel
theorem dX11_check_127 : decode cX11_check 127 = .ok (.iload_n 2, 1) := by decide +kernel
theorem dX11_check_128 : decode cX11_check 128 = .ok (.iload_n 1, 1) := by decide +kernel
theorem dX11_check_129 : decode cX11_check 129 = .ok (.invokevirtual 352, 3) := by decide +kernel
theorem dX11_check_132 : decode cX11_check 132 = .ok (.iconst 0, 1) := by decide +kernel
theorem dX11_check_133 : decode cX11_check 133 = .ok (.istore_n 3, 1) := by decide +kernel
theorem dX11_check_134 : decode cX11_check 134 = .ok (.iload_n 3, 1) := by decide +kernel
theorem dX11_check_135 : decode cX11_check 135 = .ok (.aload_n 0, 1) := by decide +kernel
theorem dX11_check_136 : decode cX11_check 136 = .ok (.getfield 228, 3) := by decide +kernel
theorem dX11_check_139 : decode cX11_check 139 = .ok (.if_icmp .ge 26, 3) := by decide +kernel
theorem dX11_check_142 : decode cX11_check 142 = .ok (.aload_n 0, 1) := by decide +kernel
theorem dX11_check_143 : decode cX11_check 143 = .ok (.getfield 78, 3) := by decide +kernel
theorem dX11_check_146 : decode cX11_check 146 = .ok (.iload_n 3, 1) := by decide +kernel
theorem dX11_check_147 : decode cX11_check 147 = .ok (.aload_n 0, 1) := by decide +kernel
theorem dX11_check_148 : decode cX11_check 148 = .ok (.getfield 71, 3) := by decide +kernel
theorem dX11_check_151 : decode cX11_check 151 = .ok (.aload_n 0, 1) := by decide +kernel
theorem dX11_check_152 : decode cX11_check 152 = .ok (.getfield 59, 3) := by decide +kernel
theorem dX11_check_155 : decode cX11_check 155 = .ok (.iload_n 3, 1) := by decide +kernel
theorem dX11_check_156 : decode cX11_check 156 = .ok (.iaload, 1) := by decide +kernel
theorem dX11_check_157 : decode cX11_check 157 = .ok (.iaload, 1) := by decide +kernel
theorem dX11_check_158 : decode cX11_check 158 = .ok (.iastore, 1) := by decide +kernel
theorem dX11_check_159 : decode cX11_check 159 = .ok (.iinc 3 1, 3) := by decide +kernel
theorem dX11_check_162 : decode cX11_check 162 = .ok (.goto (-28), 3) := by decide +kernel
theorem dX11_check_165 : decode cX11_check 165 = .ok (.iconst 1, 1) := by decide +kernel
theorem dX11_check_166 : decode cX11_check 166 = .ok (.ireturn, 1) := by decide +kernel
theorem dX11_check_167 : decode cX11_check 167 = .ok (.aload_n 0, 1) := by decide +kernel
theorem dX11_check_168 : decode cX11_check 168 = .ok (.iconst 2, 1) := by decide +kernel
theorem dX11_check_169 : decode cX11_check 169 = .ok (.putfield 332, 3) := by decide +kernel
theorem dX11_check_172 : decode cX11_check 172 = .ok (.iconst 0, 1) := by decide +kernel
theorem dX11_check_173 : decode cX11_check 173 = .ok (.istore_n 3, 1) := by decide +kernel
theorem dX11_check_174 : decode cX11_check 174 = .ok (.iload_n 3, 1) := by decide +kernel
theorem dX11_check_175 : decode cX11_check 175 = .ok (.aload_n 0, 1) := by decide +kernel
theorem dX11_check_176 : decode cX11_check 176 = .ok (.getfield 302, 3) := by decide +kernel
theorem dX11_check_179 : decode cX11_check 179 = .ok (.if_icmp .ge 35, 3) := by decide +kernel
theorem dX11_check_182 : decode cX11_check 182 = .ok (.aload_n 0, 1) := by decide +kernel
theorem dX11_check_183 : decode cX11_check 183 = .ok (.getfield 81, 3) := by decide +kernel
theorem dX11_check_186 : decode cX11_check 186 = .ok (.iload_n 3, 1) := by decide +kernel
theorem dX11_check_187 : decode cX11_check 187 = .ok (.iconst 0, 1) := by decide +kernel
theorem dX11_check_188 : decode cX11_check 188 = .ok (.bastore, 1) := by decide +kernel
theorem dX11_check_189 : decode cX11_check 189 = .ok (.aload_n 0, 1) := by decide +kernel
theorem dX11_check_190 : decode cX11_check 190 = .ok (.getfield 81, 3) := by decide +kernel
theorem dX11_check_193 : decode cX11_check 193 = .ok (.iload_n 3, 1) := by decide +kernel
theorem dX11_check_194 : decode cX11_check 194 = .ok (.aload_n 0, 1) := by decide +kernel
theorem dX11_check_195 : decode cX11_check 195 = .ok (.iload_n 1, 1) := by decide +kernel
theorem dX11_check_196 : decode cX11_check 196 = .ok (.invokevirtual 355, 3) := by decide +kernel
theorem dX11_check_199 : decode cX11_check 199 = .ok (.ifCond .lt 7, 3) := by decide +kernel
theorem dX11_check_202 : decode cX11_check 202 = .ok (.iconst 1, 1) := by decide +kernel
theorem dX11_check_203 : decode cX11_check 203 = .ok (.goto 4, 3) := by decide +kernel
theorem dX11_check_206 : decode cX11_check 206 = .ok (.iconst 0, 1) := by decide +kernel
theorem dX11_check_207 : decode cX11_check 207 = .ok (.bastore, 1) := by decide +kernel
theorem dX11_check_208 : decode cX11_check 208 = .ok (.iinc 3 1, 3) := by decide +kernel
theorem dX11_check_211 : decode cX11_check 211 = .ok (.goto (-37), 3) := by decide +kernel
theorem dX11_check_214 : decode cX11_check 214 = .ok (.iconst 0, 1) := by decide +kernel
theorem dX11_check_215 : decode cX11_check 215 = .ok (.ireturn, 1) := by decide +kernel
theorem dX11_value_0 : decode cX11_value 0 = .ok (.aload_n 0, 1) := by decide +kernel
theorem dX11_value_1 : decode cX11_value 1 = .ok (.getfield 332, 3) := by decide +kernel
theorem dX11_value_4 : decode cX11_value 4 = .ok (.iconst 1, 1) := by decide +kernel
theorem dX11_value_5 : decode cX11_value 5 = .ok (.if_icmp .ne 26, 3) := by decide +kernel
theorem dX11_value_8 : decode cX11_value 8 = .ok (.iload_n 1, 1) := by decide +kernel
theorem dX11_value_9 : decode cX11_value 9 = .ok (.iconst 0, 1) := by decide +kernel
theorem dX11_value_10 : decode cX11_value 10 = .ok (.aload_n 0, 1) := by decide +kernel
theorem dX11_value_11 : decode cX11_value 11 = .ok (.getfield 228, 3) := by decide +kernel
theorem dX11_value_14 : decode cX11_value 14 = .ok (.iconst 1, 1) := by decide +kernel
theorem dX11_value_15 : decode cX11_value 15 = .ok (.isub, 1) := by decide +kernel
theorem dX11_value_16 : decode cX11_value 16 = .ok (.invokestatic 84, 3) := by decide +kernel
theorem dX11_value_19 : decode cX11_value 19 = .ok (.ifCond .eq 12, 3) := by decide +kernel
theorem dX11_value_22 : decode cX11_value 22 = .ok (.aload_n 0, 1) := by decide +kernel
theorem dX11_value_23 : decode cX11_value 23 = .ok (.getfield 78, 3) := by decide +kernel
theorem dX11_value_26 : decode cX11_value 26 = .ok (.iload_n 1, 1) := by decide +kernel
theorem dX11_value_27 : decode cX11_value 27 = .ok (.iaload, 1) := by decide +kernel
theorem dX11_value_28 : decode cX11_value 28 = .ok (.goto 4, 3) := by decide +kernel
theorem dX11_value_31 : decode cX11_value 31 = .ok (.iconst (-1), 1) := by decide +kernel
theorem dX11_value_32 : decode cX11_value 32 = .ok (.ireturn, 1) := by decide +kernel
theorem dX11_core_0 : decode cX11_core 0 = .ok (.aload_n 0, 1) := by decide +kernel
theorem dX11_core_1 : decode cX11_core 1 = .ok (.getfield 332, 3) := by decide +kernel
theorem dX11_core_4 : decode cX11_core 4 = .ok (.iconst 2, 1) := by decide +kernel
theorem dX11_core_5 : decode cX11_core 5 = .ok (.if_icmp .ne 30, 3) := by decide +kernel
theorem dX11_core_8 : decode cX11_core 8 = .ok (.iload_n 1, 1) := by decide +kernel
theorem dX11_core_9 : decode cX11_core 9 = .ok (.iconst 0, 1) := by decide +kernel
theorem dX11_core_10 : decode cX11_core 10 = .ok (.aload_n 0, 1) := by decide +kernel
theorem dX11_core_11 : decode cX11_core 11 = .ok (.getfield 302, 3) := by decide +kernel
theorem dX11_core_14 : decode cX11_core 14 = .ok (.iconst 1, 1) := by decide +kernel
theorem dX11_core_15 : decode cX11_core 15 = .ok (.isub, 1) := by decide +kernel
theorem dX11_core_16 : decode cX11_core 16 = .ok (.invokestatic 84, 3) := by decide +kernel
theorem dX11_core_19 : decode cX11_core 19 = .ok (.ifCond .eq 16, 3) := by decide +kernel
theorem dX11_core_22 : decode cX11_core 22 = .ok (.aload_n 0, 1) := by decide +kernel
theorem dX11_core_23 : decode cX11_core 23 = .ok (.getfield 81, 3) := by decide +kernel
theorem dX11_core_26 : decode cX11_core 26 = .ok (.iload_n 1, 1) := by decide +kernel
theorem dX11_core_27 : decode cX11_core 27 = .ok (.baload, 1) := by decide +kernel
theorem dX11_core_28 : decode cX11_core 28 = .ok (.ifCond .eq 7, 3) := by decide +kernel
theorem dX11_core_31 : decode cX11_core 31 = .ok (.iconst 1, 1) := by decide +kernel
theorem dX11_core_32 : decode cX11_core 32 = .ok (.goto 4, 3) := by decide +kernel
theorem dX11_core_35 : decode cX11_core 35 = .ok (.iconst 0, 1) := by decide +kernel
theorem dX11_core_36 : decode cX11_core 36 = .ok (.ireturn, 1) := by decide +kernel
theorem dX11_terms_0 : decode cX11_terms 0 = .ok (.aload_n 0, 1) := by decide +kernel
theorem dX11_terms_1 : decode cX11_terms 1 = .ok (.getfield 326, 3) := by decide +kernel
theorem dX11_terms_4 : decode cX11_terms 4 = .ok (.ireturn, 1) := by decide +kernel
theorem dX11_count_0 : decode cX11_count 0 = .ok (.iload_n 1, 1) := by decide +kernel
theorem dX11_count_1 : decode cX11_count 1 = .ok (.ifCond .ne 10, 3) := by decide +kernel
theorem dX11_count_4 : decode cX11_count 4 = .ok (.aload_n 0, 1) := by decide +kernel
theorem dX11_count_5 : decode cX11_count 5 = .ok (.getfield 228, 3) := by decide +kernel
theorem dX11_count_8 : decode cX11_count 8 = .ok (.goto 28, 3) := by decide +kernel
theorem dX11_count_11 : decode cX11_count 11 = .ok (.iload_n 1, 1) := by decide +kernel
theorem dX11_count_12 : decode cX11_count 12 = .ok (.iconst 1, 1) := by decide +kernel
theorem dX11_count_13 : decode cX11_count 13 = .ok (.if_icmp .ne 10, 3) := by decide +kernel
theorem dX11_count_16 : decode cX11_count 16 = .ok (.aload_n 0, 1) := by decide +kernel
theorem dX11_count_17 : decode cX11_count 17 = .ok (.getfield 302, 3) := by decide +kernel
theorem dX11_count_20 : decode cX11_count 20 = .ok (.goto 16, 3) := by decide +kernel
theorem dX11_count_23 : decode cX11_count 23 = .ok (.iload_n 1, 1) := by decide +kernel
theorem dX11_count_24 : decode cX11_count 24 = .ok (.iconst 2, 1) := by decide +kernel
theorem dX11_count_25 : decode cX11_count 25 = .ok (.if_icmp .ne 10, 3) := by decide +kernel
theorem dX11_count_28 : decode cX11_count 28 = .ok (.aload_n 0, 1) := by decide +kernel
theorem dX11_count_29 : decode cX11_count 29 = .ok (.getfield 305, 3) := by decide +kernel
theorem dX11_count_32 : decode cX11_count 32 = .ok (.goto 4, 3) := by decide +kernel
theorem dX11_count_35 : decode cX11_count 35 = .ok (.iconst (-1), 1) := by decide +kernel
theorem dX11_count_36 : decode cX11_count 36 = .ok (.ireturn, 1) := by decide +kernel
theorem dL_law_0 : decode cL_law 0 = .ok (.new 7, 3) := by decide +kernel
theorem dL_law_3 : decode cL_law 3 = .ok (.dup, 1) := by decide +kernel
theorem dL_law_4 : decode cL_law 4 = .ok (.invokespecial 9, 3) := by decide +kernel
theorem dL_law_7 : decode cL_law 7 = .ok (.astore_n 1, 1) := by decide +kernel
theorem dL_law_8 : decode cL_law 8 = .ok (.new 10, 3) := by decide +kernel
theorem dL_law_11 : decode cL_law 11 = .ok (.dup, 1) := by decide +kernel
theorem dL_law_12 : decode cL_law 12 = .ok (.invokespecial 12, 3) := by decide +kernel
theorem dL_law_15 : decode cL_law 15 = .ok (.astore_n 2, 1) := by decide +kernel
theorem dL_law_16 : decode cL_law 16 = .ok (.iconst 0, 1) := by decide +kernel
theorem dL_law_17 : decode cL_law 17 = .ok (.istore_n 3, 1) := by decide +kernel
theorem dL_law_18 : decode cL_law 18 = .ok (.iload_n 3, 1) := by decide +kernel
theorem dL_law_19 : decode cL_law 19 = .ok (.aload_n 0, 1) := by decide +kernel
theorem dL_law_20 : decode cL_law 20 = .ok (.arraylength, 1) := by decide +kernel
theorem dL_law_21 : decode cL_law 21 = .ok (.iconst 3, 1) := by decide +kernel
theorem dL_law_22 : decode cL_law 22 = .ok (.isub, 1) := by decide +kernel
theorem dL_law_23 : decode cL_law 23 = .ok (.if_icmp .gt 237, 3) := by decide +kernel
theorem dL_law_26 : decode cL_law 26 = .ok (.aload_n 0, 1) := by decide +kernel
theorem dL_law_27 : decode cL_law 27 = .ok (.iload_n 3, 1) := by decide +kernel
theorem dL_law_28 : decode cL_law 28 = .ok (.iaload, 1) := by decide +kernel
theorem dL_law_29 : decode cL_law 29 = .ok (.bipush 7, 2) := by decide +kernel
theorem dL_law_31 : decode cL_law 31 = .ok (.iand, 1) := by decide +kernel
theorem dL_law_32 : decode cL_law 32 = .ok (.tableswitch 222 0 7 #[48, 81, 94, 107, 130, 153, 186, 199], 48) := by decide +kernel
theorem dL_law_80 : decode cL_law 80 = .ok (.aload_n 1, 1) := by decide +kernel
theorem dL_law_81 : decode cL_law 81 = .ok (.aload_n 0, 1) := by decide +kernel
theorem dL_law_82 : decode cL_law 82 = .ok (.iload_n 3, 1) := by decide +kernel
theorem dL_law_83 : decode cL_law 83 = .ok (.iconst 1, 1) := by decide +kernel
theorem dL_law_84 : decode cL_law 84 = .ok (.iadd, 1) := by decide +kernel
theorem dL_law_85 : decode cL_law 85 = .ok (.iaload, 1) := by decide +kernel
theorem dL_law_86 : decode cL_law 86 = .ok (.aload_n 0, 1) := by decide +kernel
theorem dL_law_87 : decode cL_law 87 = .ok (.iload_n 3, 1) := by decide +kernel
theorem dL_law_88 : decode cL_law 88 = .ok (.iconst 2, 1) := by decide +kernel
theorem dL_law_89 : decode cL_law 89 = .ok (.iadd, 1) := by decide +kernel
theorem dL_law_90 : decode cL_law 90 = .ok (.iaload, 1) := by decide +kernel
theorem dL_law_91 : decode cL_law 91 = .ok (.invokevirtual 13, 3) := by decide +kernel
theorem dL_law_94 : decode cL_law 94 = .ok (.aload_n 2, 1) := by decide +kernel
theorem dL_law_95 : decode cL_law 95 = .ok (.aload_n 0, 1) := by decide +kernel
theorem dL_law_96 : decode cL_law 96 = .ok (.iload_n 3, 1) := by decide +kernel
theorem dL_law_97 : decode cL_law 97 = .ok (.iconst 1, 1) := by decide +kernel
theorem dL_law_98 : decode cL_law 98 = .ok (.iadd, 1) := by decide +kernel
theorem dL_law_99 : decode cL_law 99 = .ok (.iaload, 1) := by decide +kernel
theorem dL_law_100 : decode cL_law 100 = .ok (.aload_n 0, 1) := by decide +kernel
theorem dL_law_101 : decode cL_law 101 = .ok (.iload_n 3, 1) := by decide +kernel
theorem dL_law_102 : decode cL_law 102 = .ok (.iconst 2, 1) := by decide +kernel
theorem dL_law_103 : decode cL_law 103 = .ok (.iadd, 1) := by decide +kernel
theorem dL_law_104 : decode cL_law 104 = .ok (.iaload, 1) := by decide +kernel
theorem dL_law_105 : decode cL_law 105 = .ok (.invokevirtual 17, 3) := by decide +kernel
theorem dL_law_108 : decode cL_law 108 = .ok (.if_icmp .eq 146, 3) := by decide +kernel
theorem dL_law_111 : decode cL_law 111 = .ok (.iconst 0, 1) := by decide +kernel
theorem dL_law_112 : decode cL_law 112 = .ok (.ireturn, 1) := by decide +kernel
theorem dL_law_113 : decode cL_law 113 = .ok (.aload_n 1, 1) := by decide +kernel
theorem dL_law_114 : decode cL_law 114 = .ok (.invokevirtual 18, 3) := by decide +kernel
theorem dL_law_117 : decode cL_law 117 = .ok (.aload_n 2, 1) := by decide +kernel
theorem dL_law_118 : decode cL_law 118 = .ok (.invokevirtual 22, 3) := by decide +kernel
theorem dL_law_121 : decode cL_law 121 = .ok (.if_icmp .eq 133, 3) := by decide +kernel
theorem dL_law_124 : decode cL_law 124 = .ok (.iconst 0, 1) := by decide +kernel
theorem dL_law_125 : decode cL_law 125 = .ok (.ireturn, 1) := by decide +kernel
theorem dL_law_126 : decode cL_law 126 = .ok (.aload_n 1, 1) := by decide +kernel
theorem dL_law_127 : decode cL_law 127 = .ok (.invokevirtual 23, 3) := by decide +kernel
theorem dL_law_130 : decode cL_law 130 = .ok (.aload_n 2, 1) := by decide +kernel
theorem dL_law_131 : decode cL_law 131 = .ok (.invokevirtual 26, 3) := by decide +kernel
theorem dL_law_134 : decode cL_law 134 = .ok (.if_icmp .eq 120, 3) := by decide +kernel
theorem dL_law_137 : decode cL_law 137 = .ok (.iconst 0, 1) := by decide +kernel
theorem dL_law_138 : decode cL_law 138 = .ok (.ireturn, 1) := by decide +kernel
theorem dL_law_139 : decode cL_law 139 = .ok (.aload_n 1, 1) := by decide +kernel
theorem dL_law_140 : decode cL_law 140 = .ok (.aload_n 0, 1) := by decide +kernel
theorem dL_law_141 : decode cL_law 141 = .ok (.iload_n 3, 1) := by decide +kernel
theorem dL_law_142 : decode cL_law 142 = .ok (.iconst 1, 1) := by decide +kernel
theorem dL_law_143 : decode cL_law 143 = .ok (.iadd, 1) := by decide +kernel
theorem dL_law_144 : decode cL_law 144 = .ok (.iaload, 1) := by decide +kernel
theorem dL_law_145 : decode cL_law 145 = .ok (.invokevirtual 27, 3) := by decide +kernel
theorem dL_law_148 : decode cL_law 148 = .ok (.aload_n 2, 1) := by decide +kernel
theorem dL_law_149 : decode cL_law 149 = .ok (.aload_n 0, 1) := by decide +kernel
theorem dL_law_150 : decode cL_law 150 = .ok (.iload_n 3, 1) := by decide +kernel
theorem dL_law_151 : decode cL_law 151 = .ok (.iconst 1, 1) := by decide +kernel
theorem dL_law_152 : decode cL_law 152 = .ok (.iadd, 1) := by decide +kernel
theorem dL_law_153 : decode cL_law 153 = .ok (.iaload, 1) := by decide +kernel
theorem dL_law_154 : decode cL_law 154 = .ok (.invokevirtual 31, 3) := by decide +kernel
theorem dL_law_157 : decode cL_law 157 = .ok (.if_icmp .eq 97, 3) := by decide +kernel
theorem dL_law_160 : decode cL_law 160 = .ok (.iconst 0, 1) := by decide +kernel
theorem dL_law_161 : decode cL_law 161 = .ok (.ireturn, 1) := by decide +kernel
theorem dL_law_162 : decode cL_law 162 = .ok (.aload_n 1, 1) := by decide +kernel
theorem dL_law_163 : decode cL_law 163 = .ok (.aload_n 0, 1) := by decide +kernel
theorem dL_law_164 : decode cL_law 164 = .ok (.iload_n 3, 1) := by decide +kernel
theorem dL_law_165 : decode cL_law 165 = .ok (.iconst 1, 1) := by decide +kernel
theorem dL_law_166 : decode cL_law 166 = .ok (.iadd, 1) := by decide +kernel
theorem dL_law_167 : decode cL_law 167 = .ok (.iaload, 1) := by decide +kernel
theorem dL_law_168 : decode cL_law 168 = .ok (.invokevirtual 32, 3) := by decide +kernel
theorem dL_law_171 : decode cL_law 171 = .ok (.aload_n 2, 1) := by decide +kernel
theorem dL_law_172 : decode cL_law 172 = .ok (.aload_n 0, 1) := by decide +kernel
theorem dL_law_173 : decode cL_law 173 = .ok (.iload_n 3, 1) := by decide +kernel
theorem dL_law_174 : decode cL_law 174 = .ok (.iconst 1, 1) := by decide +kernel
theorem dL_law_175 : decode cL_law 175 = .ok (.iadd, 1) := by decide +kernel
theorem dL_law_176 : decode cL_law 176 = .ok (.iaload, 1) := by decide +kernel
theorem dL_law_177 : decode cL_law 177 = .ok (.invokevirtual 36, 3) := by decide +kernel
theorem dL_law_180 : decode cL_law 180 = .ok (.if_icmp .eq 74, 3) := by decide +kernel
theorem dL_law_183 : decode cL_law 183 = .ok (.iconst 0, 1) := by decide +kernel
theorem dL_law_184 : decode cL_law 184 = .ok (.ireturn, 1) := by decide +kernel
theorem dL_law_185 : decode cL_law 185 = .ok (.aload_n 1, 1) := by decide +kernel
theorem dL_law_186 : decode cL_law 186 = .ok (.aload_n 0, 1) := by decide +kernel
theorem dL_law_187 : decode cL_law 187 = .ok (.iload_n 3, 1) := by decide +kernel
theorem dL_law_188 : decode cL_law 188 = .ok (.iconst 1, 1) := by decide +kernel
theorem dL_law_189 : decode cL_law 189 = .ok (.iadd, 1) := by decide +kernel
theorem dL_law_190 : decode cL_law 190 = .ok (.iaload, 1) := by decide +kernel
theorem dL_law_191 : decode cL_law 191 = .ok (.aload_n 0, 1) := by decide +kernel
theorem dL_law_192 : decode cL_law 192 = .ok (.iload_n 3, 1) := by decide +kernel
theorem dL_law_193 : decode cL_law 193 = .ok (.iconst 2, 1) := by decide +kernel
theorem dL_law_194 : decode cL_law 194 = .ok (.iadd, 1) := by decide +kernel
theorem dL_law_195 : decode cL_law 195 = .ok (.iaload, 1) := by decide +kernel
theorem dL_law_196 : decode cL_law 196 = .ok (.invokevirtual 37, 3) := by decide +kernel
theorem dL_law_199 : decode cL_law 199 = .ok (.aload_n 2, 1) := by decide +kernel
theorem dL_law_200 : decode cL_law 200 = .ok (.aload_n 0, 1) := by decide +kernel
theorem dL_law_201 : decode cL_law 201 = .ok (.iload_n 3, 1) := by decide +kernel
theorem dL_law_202 : decode cL_law 202 = .ok (.iconst 1, 1) := by decide +kernel
theorem dL_law_203 : decode cL_law 203 = .ok (.iadd, 1) := by decide +kernel
theorem dL_law_204 : decode cL_law 204 = .ok (.iaload, 1) := by decide +kernel
theorem dL_law_205 : decode cL_law 205 = .ok (.aload_n 0, 1) := by decide +kernel
theorem dL_law_206 : decode cL_law 206 = .ok (.iload_n 3, 1) := by decide +kernel
theorem dL_law_207 : decode cL_law 207 = .ok (.iconst 2, 1) := by decide +kernel
theorem dL_law_208 : decode cL_law 208 = .ok (.iadd, 1) := by decide +kernel
theorem dL_law_209 : decode cL_law 209 = .ok (.iaload, 1) := by decide +kernel
theorem dL_law_210 : decode cL_law 210 = .ok (.invokevirtual 41, 3) := by decide +kernel
theorem dL_law_213 : decode cL_law 213 = .ok (.if_icmp .eq 41, 3) := by decide +kernel
theorem dL_law_216 : decode cL_law 216 = .ok (.iconst 0, 1) := by decide +kernel
theorem dL_law_217 : decode cL_law 217 = .ok (.ireturn, 1) := by decide +kernel
theorem dL_law_218 : decode cL_law 218 = .ok (.aload_n 1, 1) := by decide +kernel
theorem dL_law_219 : decode cL_law 219 = .ok (.invokevirtual 42, 3) := by decide +kernel
theorem dL_law_222 : decode cL_law 222 = .ok (.aload_n 2, 1) := by decide +kernel
theorem dL_law_223 : decode cL_law 223 = .ok (.invokevirtual 45, 3) := by decide +kernel
theorem dL_law_226 : decode cL_law 226 = .ok (.if_icmp .eq 28, 3) := by decide +kernel
theorem dL_law_229 : decode cL_law 229 = .ok (.iconst 0, 1) := by decide +kernel
theorem dL_law_230 : decode cL_law 230 = .ok (.ireturn, 1) := by decide +kernel
theorem dL_law_231 : decode cL_law 231 = .ok (.aload_n 1, 1) := by decide +kernel
theorem dL_law_232 : decode cL_law 232 = .ok (.aload_n 0, 1) := by decide +kernel
theorem dL_law_233 : decode cL_law 233 = .ok (.iload_n 3, 1) := by decide +kernel
theorem dL_law_234 : decode cL_law 234 = .ok (.iconst 1, 1) := by decide +kernel
theorem dL_law_235 : decode cL_law 235 = .ok (.iadd, 1) := by decide +kernel
theorem dL_law_236 : decode cL_law 236 = .ok (.iaload, 1) := by decide +kernel
theorem dL_law_237 : decode cL_law 237 = .ok (.invokevirtual 46, 3) := by decide +kernel
theorem dL_law_240 : decode cL_law 240 = .ok (.aload_n 2, 1) := by decide +kernel
theorem dL_law_241 : decode cL_law 241 = .ok (.aload_n 0, 1) := by decide +kernel
theorem dL_law_242 : decode cL_law 242 = .ok (.iload_n 3, 1) := by decide +kernel
theorem dL_law_243 : decode cL_law 243 = .ok (.iconst 1, 1) := by decide +kernel
theorem dL_law_244 : decode cL_law 244 = .ok (.iadd, 1) := by decide +kernel
theorem dL_law_245 : decode cL_law 245 = .ok (.iaload, 1) := by decide +kernel
theorem dL_law_246 : decode cL_law 246 = .ok (.invokevirtual 49, 3) := by decide +kernel
theorem dL_law_249 : decode cL_law 249 = .ok (.if_icmp .eq 5, 3) := by decide +kernel
theorem dL_law_252 : decode cL_law 252 = .ok (.iconst 0, 1) := by decide +kernel
theorem dL_law_253 : decode cL_law 253 = .ok (.ireturn, 1) := by decide +kernel
theorem dL_law_254 : decode cL_law 254 = .ok (.iinc 3 3, 3) := by decide +kernel
theorem dL_law_257 : decode cL_law 257 = .ok (.goto (-239), 3) := by decide +kernel
theorem dL_law_260 : decode cL_law 260 = .ok (.iconst 1, 1) := by decide +kernel
theorem dL_law_261 : decode cL_law 261 = .ok (.ireturn, 1) := by decide +kernel
