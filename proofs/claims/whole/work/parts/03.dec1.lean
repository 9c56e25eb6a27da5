theorem dX2_clear_33 : decode cX2_clear 33 = .ok (.iconst (-1), 1) := by decide +kernel
theorem dX2_clear_34 : decode cX2_clear 34 = .ok (.iastore, 1) := by decide +kernel
theorem dX2_clear_35 : decode cX2_clear 35 = .ok (.iinc 2 1, 3) := by decide +kernel
theorem dX2_clear_38 : decode cX2_clear 38 = .ok (.goto (-24), 3) := by decide +kernel
theorem dX2_clear_41 : decode cX2_clear 41 = .ok (.return_, 1) := by decide +kernel
theorem dX2_tell_0 : decode cX2_tell 0 = .ok (.iload_n 1, 1) := by decide +kernel
theorem dX2_tell_1 : decode cX2_tell 1 = .ok (.lookupswitch 114 #[(0, 27), (1, 63)], 27) := by decide +kernel
theorem dX2_tell_28 : decode cX2_tell 28 = .ok (.aload_n 0, 1) := by decide +kernel
theorem dX2_tell_29 : decode cX2_tell 29 = .ok (.iload_n 2, 1) := by decide +kernel
theorem dX2_tell_30 : decode cX2_tell 30 = .ok (.iconst 1, 1) := by decide +kernel
theorem dX2_tell_31 : decode cX2_tell 31 = .ok (.ixor, 1) := by decide +kernel
theorem dX2_tell_32 : decode cX2_tell 32 = .ok (.iload 4, 2) := by decide +kernel
theorem dX2_tell_34 : decode cX2_tell 34 = .ok (.iconst (-1), 1) := by decide +kernel
theorem dX2_tell_35 : decode cX2_tell 35 = .ok (.invokevirtual 28, 3) := by decide +kernel
theorem dX2_tell_38 : decode cX2_tell 38 = .ok (.aload_n 0, 1) := by decide +kernel
theorem dX2_tell_39 : decode cX2_tell 39 = .ok (.iload_n 2, 1) := by decide +kernel
theorem dX2_tell_40 : decode cX2_tell 40 = .ok (.iconst 1, 1) := by decide +kernel
theorem dX2_tell_41 : decode cX2_tell 41 = .ok (.ixor, 1) := by decide +kernel
theorem dX2_tell_42 : decode cX2_tell 42 = .ok (.iload 5, 2) := by decide +kernel
theorem dX2_tell_44 : decode cX2_tell 44 = .ok (.iconst (-1), 1) := by decide +kernel
theorem dX2_tell_45 : decode cX2_tell 45 = .ok (.invokevirtual 28, 3) := by decide +kernel
theorem dX2_tell_48 : decode cX2_tell 48 = .ok (.aload_n 0, 1) := by decide +kernel
theorem dX2_tell_49 : decode cX2_tell 49 = .ok (.iload_n 2, 1) := by decide +kernel
theorem dX2_tell_50 : decode cX2_tell 50 = .ok (.iload 4, 2) := by decide +kernel
theorem dX2_tell_52 : decode cX2_tell 52 = .ok (.iconst 1, 1) := by decide +kernel
theorem dX2_tell_53 : decode cX2_tell 53 = .ok (.ixor, 1) := by decide +kernel
theorem dX2_tell_54 : decode cX2_tell 54 = .ok (.iload 5, 2) := by decide +kernel
theorem dX2_tell_56 : decode cX2_tell 56 = .ok (.iconst 1, 1) := by decide +kernel
theorem dX2_tell_57 : decode cX2_tell 57 = .ok (.ixor, 1) := by decide +kernel
theorem dX2_tell_58 : decode cX2_tell 58 = .ok (.invokevirtual 28, 3) := by decide +kernel
theorem dX2_tell_61 : decode cX2_tell 61 = .ok (.goto 98, 3) := by decide +kernel
theorem dX2_tell_64 : decode cX2_tell 64 = .ok (.aload_n 0, 1) := by decide +kernel
theorem dX2_tell_65 : decode cX2_tell 65 = .ok (.iload_n 2, 1) := by decide +kernel
theorem dX2_tell_66 : decode cX2_tell 66 = .ok (.iconst 1, 1) := by decide +kernel
theorem dX2_tell_67 : decode cX2_tell 67 = .ok (.ixor, 1) := by decide +kernel
theorem dX2_tell_68 : decode cX2_tell 68 = .ok (.iload 4, 2) := by decide +kernel
theorem dX2_tell_70 : decode cX2_tell 70 = .ok (.iload 5, 2) := by decide +kernel
theorem dX2_tell_72 : decode cX2_tell 72 = .ok (.invokevirtual 28, 3) := by decide +kernel
theorem dX2_tell_75 : decode cX2_tell 75 = .ok (.aload_n 0, 1) := by decide +kernel
theorem dX2_tell_76 : decode cX2_tell 76 = .ok (.iload_n 2, 1) := by decide +kernel
theorem dX2_tell_77 : decode cX2_tell 77 = .ok (.iconst 1, 1) := by decide +kernel
theorem dX2_tell_78 : decode cX2_tell 78 = .ok (.ixor, 1) := by decide +kernel
theorem dX2_tell_79 : decode cX2_tell 79 = .ok (.iload 4, 2) := by decide +kernel
theorem dX2_tell_81 : decode cX2_tell 81 = .ok (.iconst 1, 1) := by decide +kernel
theorem dX2_tell_82 : decode cX2_tell 82 = .ok (.ixor, 1) := by decide +kernel
theorem dX2_tell_83 : decode cX2_tell 83 = .ok (.iload 5, 2) := by decide +kernel
theorem dX2_tell_85 : decode cX2_tell 85 = .ok (.iconst 1, 1) := by decide +kernel
theorem dX2_tell_86 : decode cX2_tell 86 = .ok (.ixor, 1) := by decide +kernel
theorem dX2_tell_87 : decode cX2_tell 87 = .ok (.invokevirtual 28, 3) := by decide +kernel
theorem dX2_tell_90 : decode cX2_tell 90 = .ok (.aload_n 0, 1) := by decide +kernel
theorem dX2_tell_91 : decode cX2_tell 91 = .ok (.iload_n 2, 1) := by decide +kernel
theorem dX2_tell_92 : decode cX2_tell 92 = .ok (.iload 4, 2) := by decide +kernel
theorem dX2_tell_94 : decode cX2_tell 94 = .ok (.iconst 1, 1) := by decide +kernel
theorem dX2_tell_95 : decode cX2_tell 95 = .ok (.ixor, 1) := by decide +kernel
theorem dX2_tell_96 : decode cX2_tell 96 = .ok (.iload 5, 2) := by decide +kernel
theorem dX2_tell_98 : decode cX2_tell 98 = .ok (.invokevirtual 28, 3) := by decide +kernel
theorem dX2_tell_101 : decode cX2_tell 101 = .ok (.aload_n 0, 1) := by decide +kernel
theorem dX2_tell_102 : decode cX2_tell 102 = .ok (.iload_n 2, 1) := by decide +kernel
theorem dX2_tell_103 : decode cX2_tell 103 = .ok (.iload 4, 2) := by decide +kernel
theorem dX2_tell_105 : decode cX2_tell 105 = .ok (.iload 5, 2) := by decide +kernel
theorem dX2_tell_107 : decode cX2_tell 107 = .ok (.iconst 1, 1) := by decide +kernel
theorem dX2_tell_108 : decode cX2_tell 108 = .ok (.ixor, 1) := by decide +kernel
theorem dX2_tell_109 : decode cX2_tell 109 = .ok (.invokevirtual 28, 3) := by decide +kernel
theorem dX2_tell_112 : decode cX2_tell 112 = .ok (.goto 47, 3) := by decide +kernel
theorem dX2_tell_115 : decode cX2_tell 115 = .ok (.aload_n 0, 1) := by decide +kernel
theorem dX2_tell_116 : decode cX2_tell 116 = .ok (.iload_n 2, 1) := by decide +kernel
theorem dX2_tell_117 : decode cX2_tell 117 = .ok (.iconst 1, 1) := by decide +kernel
theorem dX2_tell_118 : decode cX2_tell 118 = .ok (.ixor, 1) := by decide +kernel
theorem dX2_tell_119 : decode cX2_tell 119 = .ok (.iload_n 3, 1) := by decide +kernel
theorem dX2_tell_120 : decode cX2_tell 120 = .ok (.iconst 1, 1) := by decide +kernel
theorem dX2_tell_121 : decode cX2_tell 121 = .ok (.ixor, 1) := by decide +kernel
theorem dX2_tell_122 : decode cX2_tell 122 = .ok (.iload 4, 2) := by decide +kernel
theorem dX2_tell_124 : decode cX2_tell 124 = .ok (.invokevirtual 28, 3) := by decide +kernel
theorem dX2_tell_127 : decode cX2_tell 127 = .ok (.aload_n 0, 1) := by decide +kernel
theorem dX2_tell_128 : decode cX2_tell 128 = .ok (.iload_n 2, 1) := by decide +kernel
theorem dX2_tell_129 : decode cX2_tell 129 = .ok (.iload_n 3, 1) := by decide +kernel
theorem dX2_tell_130 : decode cX2_tell 130 = .ok (.iconst 1, 1) := by decide +kernel
theorem dX2_tell_131 : decode cX2_tell 131 = .ok (.ixor, 1) := by decide +kernel
theorem dX2_tell_132 : decode cX2_tell 132 = .ok (.iload 4, 2) := by decide +kernel
theorem dX2_tell_134 : decode cX2_tell 134 = .ok (.iconst 1, 1) := by decide +kernel
theorem dX2_tell_135 : decode cX2_tell 135 = .ok (.ixor, 1) := by decide +kernel
theorem dX2_tell_136 : decode cX2_tell 136 = .ok (.invokevirtual 28, 3) := by decide +kernel
theorem dX2_tell_139 : decode cX2_tell 139 = .ok (.aload_n 0, 1) := by decide +kernel
theorem dX2_tell_140 : decode cX2_tell 140 = .ok (.iload_n 2, 1) := by decide +kernel
theorem dX2_tell_141 : decode cX2_tell 141 = .ok (.iconst 1, 1) := by decide +kernel
theorem dX2_tell_142 : decode cX2_tell 142 = .ok (.ixor, 1) := by decide +kernel
theorem dX2_tell_143 : decode cX2_tell 143 = .ok (.iload_n 3, 1) := by decide +kernel
theorem dX2_tell_144 : decode cX2_tell 144 = .ok (.iload 5, 2) := by decide +kernel
theorem dX2_tell_146 : decode cX2_tell 146 = .ok (.invokevirtual 28, 3) := by decide +kernel
theorem dX2_tell_149 : decode cX2_tell 149 = .ok (.aload_n 0, 1) := by decide +kernel
theorem dX2_tell_150 : decode cX2_tell 150 = .ok (.iload_n 2, 1) := by decide +kernel
theorem dX2_tell_151 : decode cX2_tell 151 = .ok (.iload_n 3, 1) := by decide +kernel
theorem dX2_tell_152 : decode cX2_tell 152 = .ok (.iload 5, 2) := by decide +kernel
theorem dX2_tell_154 : decode cX2_tell 154 = .ok (.iconst 1, 1) := by decide +kernel
theorem dX2_tell_155 : decode cX2_tell 155 = .ok (.ixor, 1) := by decide +kernel
theorem dX2_tell_156 : decode cX2_tell 156 = .ok (.invokevirtual 28, 3) := by decide +kernel
theorem dX2_tell_159 : decode cX2_tell 159 = .ok (.return_, 1) := by decide +kernel
theorem dX2_add_0 : decode cX2_add 0 = .ok (.aload_n 0, 1) := by decide +kernel
theorem dX2_add_1 : decode cX2_add 1 = .ok (.iload_n 1, 1) := by decide +kernel
theorem dX2_add_2 : decode cX2_add 2 = .ok (.invokevirtual 32, 3) := by decide +kernel
theorem dX2_add_5 : decode cX2_add 5 = .ok (.aload_n 0, 1) := by decide +kernel
theorem dX2_add_6 : decode cX2_add 6 = .ok (.iload_n 2, 1) := by decide +kernel
theorem dX2_add_7 : decode cX2_add 7 = .ok (.invokevirtual 32, 3) := by decide +kernel
theorem dX2_add_10 : decode cX2_add 10 = .ok (.iload_n 3, 1) := by decide +kernel
theorem dX2_add_11 : decode cX2_add 11 = .ok (.iconst (-1), 1) := by decide +kernel
theorem dX2_add_12 : decode cX2_add 12 = .ok (.if_icmp .eq 8, 3) := by decide +kernel
theorem dX2_add_15 : decode cX2_add 15 = .ok (.aload_n 0, 1) := by decide +kernel
theorem dX2_add_16 : decode cX2_add 16 = .ok (.iload_n 3, 1) := by decide +kernel
theorem dX2_add_17 : decode cX2_add 17 = .ok (.invokevirtual 32, 3) := by decide +kernel
theorem dX2_add_20 : decode cX2_add 20 = .ok (.aload_n 0, 1) := by decide +kernel
theorem dX2_add_21 : decode cX2_add 21 = .ok (.invokevirtual 36, 3) := by decide +kernel
theorem dX2_add_24 : decode cX2_add 24 = .ok (.pop, 1) := by decide +kernel
theorem dX2_add_25 : decode cX2_add 25 = .ok (.return_, 1) := by decide +kernel
theorem dX2_gather_0 : decode cX2_gather 0 = .ok (.aload_n 0, 1) := by decide +kernel
theorem dX2_gather_1 : decode cX2_gather 1 = .ok (.getfield 24, 3) := by decide +kernel
theorem dX2_gather_4 : decode cX2_gather 4 = .ok (.sipush 4516, 3) := by decide +kernel
theorem dX2_gather_7 : decode cX2_gather 7 = .ok (.if_icmp .ge 52, 3) := by decide +kernel
theorem dX2_gather_10 : decode cX2_gather 10 = .ok (.aload_n 0, 1) := by decide +kernel
theorem dX2_gather_11 : decode cX2_gather 11 = .ok (.getfield 15, 3) := by decide +kernel
theorem dX2_gather_14 : decode cX2_gather 14 = .ok (.aload_n 0, 1) := by decide +kernel
theorem dX2_gather_15 : decode cX2_gather 15 = .ok (.getfield 24, 3) := by decide +kernel
theorem dX2_gather_18 : decode cX2_gather 18 = .ok (.iconst 1, 1) := by decide +kernel
theorem dX2_gather_19 : decode cX2_gather 19 = .ok (.iadd, 1) := by decide +kernel
theorem dX2_gather_20 : decode cX2_gather 20 = .ok (.iaload, 1) := by decide +kernel
theorem dX2_gather_21 : decode cX2_gather 21 = .ok (.sipush 14828, 3) := by decide +kernel
theorem dX2_gather_24 : decode cX2_gather 24 = .ok (.if_icmp .ge 35, 3) := by decide +kernel
theorem dX2_gather_27 : decode cX2_gather 27 = .ok (.aload_n 0, 1) := by decide +kernel
theorem dX2_gather_28 : decode cX2_gather 28 = .ok (.getfield 11, 3) := by decide +kernel
theorem dX2_gather_31 : decode cX2_gather 31 = .ok (.aload_n 0, 1) := by decide +kernel
theorem dX2_gather_32 : decode cX2_gather 32 = .ok (.getfield 15, 3) := by decide +kernel
theorem dX2_gather_35 : decode cX2_gather 35 = .ok (.aload_n 0, 1) := by decide +kernel
theorem dX2_gather_36 : decode cX2_gather 36 = .ok (.getfield 24, 3) := by decide +kernel
theorem dX2_gather_39 : decode cX2_gather 39 = .ok (.iconst 1, 1) := by decide +kernel
theorem dX2_gather_40 : decode cX2_gather 40 = .ok (.iadd, 1) := by decide +kernel
theorem dX2_gather_41 : decode cX2_gather 41 = .ok (.iaload, 1) := by decide +kernel
theorem dX2_gather_42 : decode cX2_gather 42 = .ok (.iload_n 1, 1) := by decide +kernel
theorem dX2_gather_43 : decode cX2_gather 43 = .ok (.iastore, 1) := by decide +kernel
theorem dX2_gather_44 : decode cX2_gather 44 = .ok (.aload_n 0, 1) := by decide +kernel
theorem dX2_gather_45 : decode cX2_gather 45 = .ok (.getfield 15, 3) := by decide +kernel
theorem dX2_gather_48 : decode cX2_gather 48 = .ok (.aload_n 0, 1) := by decide +kernel
theorem dX2_gather_49 : decode cX2_gather 49 = .ok (.getfield 24, 3) := by decide +kernel
theorem dX2_gather_52 : decode cX2_gather 52 = .ok (.iconst 1, 1) := by decide +kernel
theorem dX2_gather_53 : decode cX2_gather 53 = .ok (.iadd, 1) := by decide +kernel
theorem dX2_gather_54 : decode cX2_gather 54 = .ok (.dup2, 1) := by decide +kernel
theorem dX2_gather_55 : decode cX2_gather 55 = .ok (.iaload, 1) := by decide +kernel
theorem dX2_gather_56 : decode cX2_gather 56 = .ok (.iconst 1, 1) := by decide +kernel
theorem dX2_gather_57 : decode cX2_gather 57 = .ok (.iadd, 1) := by decide +kernel
theorem dX2_gather_58 : decode cX2_gather 58 = .ok (.iastore, 1) := by decide +kernel
theorem dX2_gather_59 : decode cX2_gather 59 = .ok (.return_, 1) := by decide +kernel
theorem dX2_finish_0 : decode cX2_finish 0 = .ok (.aload_n 0, 1) := by decide +kernel
theorem dX2_finish_1 : decode cX2_finish 1 = .ok (.getfield 24, 3) := by decide +kernel
theorem dX2_finish_4 : decode cX2_finish 4 = .ok (.sipush 4516, 3) := by decide +kernel
theorem dX2_finish_7 : decode cX2_finish 7 = .ok (.if_icmp .ge 28, 3) := by decide +kernel
theorem dX2_finish_10 : decode cX2_finish 10 = .ok (.aload_n 0, 1) := by decide +kernel
theorem dX2_finish_11 : decode cX2_finish 11 = .ok (.getfield 15, 3) := by decide +kernel
theorem dX2_finish_14 : decode cX2_finish 14 = .ok (.aload_n 0, 1) := by decide +kernel
theorem dX2_finish_15 : decode cX2_finish 15 = .ok (.getfield 24, 3) := by decide +kernel
theorem dX2_finish_18 : decode cX2_finish 18 = .ok (.iconst 1, 1) := by decide +kernel
theorem dX2_finish_19 : decode cX2_finish 19 = .ok (.iadd, 1) := by decide +kernel
theorem dX2_finish_20 : decode cX2_finish 20 = .ok (.iaload, 1) := by decide +kernel
theorem dX2_finish_21 : decode cX2_finish 21 = .ok (.aload_n 0, 1) := by decide +kernel
theorem dX2_finish_22 : decode cX2_finish 22 = .ok (.getfield 15, 3) := by decide +kernel
theorem dX2_finish_25 : decode cX2_finish 25 = .ok (.aload_n 0, 1) := by decide +kernel
theorem dX2_finish_26 : decode cX2_finish 26 = .ok (.getfield 24, 3) := by decide +kernel
theorem dX2_finish_29 : decode cX2_finish 29 = .ok (.iaload, 1) := by decide +kernel
theorem dX2_finish_30 : decode cX2_finish 30 = .ok (.isub, 1) := by decide +kernel
theorem dX2_finish_31 : decode cX2_finish 31 = .ok (.iconst 2, 1) := by decide +kernel
theorem dX2_finish_32 : decode cX2_finish 32 = .ok (.if_icmp .ge 5, 3) := by decide +kernel
theorem dX2_finish_35 : decode cX2_finish 35 = .ok (.iconst (-1), 1) := by decide +kernel
theorem dX2_finish_36 : decode cX2_finish 36 = .ok (.ireturn, 1) := by decide +kernel
theorem dX2_finish_37 : decode cX2_finish 37 = .ok (.aload_n 0, 1) := by decide +kernel
theorem dX2_finish_38 : decode cX2_finish 38 = .ok (.getfield 24, 3) := by decide +kernel
theorem dX2_finish_41 : decode cX2_finish 41 = .ok (.istore_n 1, 1) := by decide +kernel
theorem dX2_finish_42 : decode cX2_finish 42 = .ok (.aload_n 0, 1) := by decide +kernel
theorem dX2_finish_43 : decode cX2_finish 43 = .ok (.dup, 1) := by decide +kernel
theorem dX2_finish_44 : decode cX2_finish 44 = .ok (.getfield 24, 3) := by decide +kernel
theorem dX2_finish_47 : decode cX2_finish 47 = .ok (.iconst 1, 1) := by decide +kernel
theorem dX2_finish_48 : decode cX2_finish 48 = .ok (.iadd, 1) := by decide +kernel
theorem dX2_finish_49 : decode cX2_finish 49 = .ok (.putfield 24, 3) := by decide +kernel
theorem dX2_finish_52 : decode cX2_finish 52 = .ok (.aload_n 0, 1) := by decide +kernel
theorem dX2_finish_53 : decode cX2_finish 53 = .ok (.getfield 24, 3) := by decide +kernel
theorem dX2_finish_56 : decode cX2_finish 56 = .ok (.sipush 4516, 3) := by decide +kernel
theorem dX2_finish_59 : decode cX2_finish 59 = .ok (.if_icmp .ge 23, 3) := by decide +kernel
theorem dX2_finish_62 : decode cX2_finish 62 = .ok (.aload_n 0, 1) := by decide +kernel
theorem dX2_finish_63 : decode cX2_finish 63 = .ok (.getfield 15, 3) := by decide +kernel
theorem dX2_finish_66 : decode cX2_finish 66 = .ok (.aload_n 0, 1) := by decide +kernel
theorem dX2_finish_67 : decode cX2_finish 67 = .ok (.getfield 24, 3) := by decide +kernel
theorem dX2_finish_70 : decode cX2_finish 70 = .ok (.iconst 1, 1) := by decide +kernel
theorem dX2_finish_71 : decode cX2_finish 71 = .ok (.iadd, 1) := by decide +kernel
theorem dX2_finish_72 : decode cX2_finish 72 = .ok (.aload_n 0, 1) := by decide +kernel
theorem dX2_finish_73 : decode cX2_finish 73 = .ok (.getfield 15, 3) := by decide +kernel
theorem dX2_finish_76 : decode cX2_finish 76 = .ok (.aload_n 0, 1) := by decide +kernel
theorem dX2_finish_77 : decode cX2_finish 77 = .ok (.getfield 24, 3) := by decide +kernel
theorem dX2_finish_80 : decode cX2_finish 80 = .ok (.iaload, 1) := by decide +kernel
theorem dX2_finish_81 : decode cX2_finish 81 = .ok (.iastore, 1) := by decide +kernel
theorem dX2_finish_82 : decode cX2_finish 82 = .ok (.aload_n 0, 1) := by decide +kernel
theorem dX2_finish_83 : decode cX2_finish 83 = .ok (.iconst 2, 1) := by decide +kernel
theorem dX2_finish_84 : decode cX2_finish 84 = .ok (.iload_n 1, 1) := by decide +kernel
theorem dX2_finish_85 : decode cX2_finish 85 = .ok (.imul, 1) := by decide +kernel
theorem dX2_finish_86 : decode cX2_finish 86 = .ok (.invokevirtual 40, 3) := by decide +kernel
theorem dX2_finish_89 : decode cX2_finish 89 = .ok (.aload_n 0, 1) := by decide +kernel
theorem dX2_finish_90 : decode cX2_finish 90 = .ok (.iconst 2, 1) := by decide +kernel
theorem dX2_finish_91 : decode cX2_finish 91 = .ok (.iload_n 1, 1) := by decide +kernel
theorem dX2_finish_92 : decode cX2_finish 92 = .ok (.imul, 1) := by decide +kernel
theorem dX2_finish_93 : decode cX2_finish 93 = .ok (.iconst 1, 1) := by decide +kernel
theorem dX2_finish_94 : decode cX2_finish 94 = .ok (.iadd, 1) := by decide +kernel
theorem dX2_finish_95 : decode cX2_finish 95 = .ok (.invokevirtual 40, 3) := by decide +kernel
theorem dX2_finish_98 : decode cX2_finish 98 = .ok (.iload_n 1, 1) := by decide +kernel
theorem dX2_finish_99 : decode cX2_finish 99 = .ok (.ireturn, 1) := by decide +kernel
theorem dX2_watched_0 : decode cX2_watched 0 = .ok (.aload_n 0, 1) := by decide +kernel
theorem dX2_watched_1 : decode cX2_watched 1 = .ok (.getfield 11, 3) := by decide +kernel
theorem dX2_watched_4 : decode cX2_watched 4 = .ok (.aload_n 0, 1) := by decide +kernel
theorem dX2_watched_5 : decode cX2_watched 5 = .ok (.getfield 15, 3) := by decide +kernel
theorem dX2_watched_8 : decode cX2_watched 8 = .ok (.iload_n 1, 1) := by decide +kernel
theorem dX2_watched_9 : decode cX2_watched 9 = .ok (.iconst 1, 1) := by decide +kernel
theorem dX2_watched_10 : decode cX2_watched 10 = .ok (.ishr, 1) := by decide +kernel
theorem dX2_watched_11 : decode cX2_watched 11 = .ok (.iaload, 1) := by decide +kernel
theorem dX2_watched_12 : decode cX2_watched 12 = .ok (.iload_n 1, 1) := by decide +kernel
theorem dX2_watched_13 : decode cX2_watched 13 = .ok (.iconst 1, 1) := by decide +kernel
theorem dX2_watched_14 : decode cX2_watched 14 = .ok (.iand, 1) := by decide +kernel
theorem dX2_watched_15 : decode cX2_watched 15 = .ok (.iadd, 1) := by decide +kernel
theorem dX2_watched_16 : decode cX2_watched 16 = .ok (.iaload, 1) := by decide +kernel
theorem dX2_watched_17 : decode cX2_watched 17 = .ok (.ireturn, 1) := by decide +kernel
theorem dX2_watch_0 : decode cX2_watch 0 = .ok (.aload_n 0, 1) := by decide +kernel
theorem dX2_watch_1 : decode cX2_watch 1 = .ok (.getfield 11, 3) := by decide +kernel
theorem dX2_watch_4 : decode cX2_watch 4 = .ok (.aload_n 0, 1) := by decide +kernel
theorem dX2_watch_5 : decode cX2_watch 5 = .ok (.getfield 15, 3) := by decide +kernel
theorem dX2_watch_8 : decode cX2_watch 8 = .ok (.iload_n 1, 1) := by decide +kernel
theorem dX2_watch_9 : decode cX2_watch 9 = .ok (.iconst 1, 1) := by decide +kernel
theorem dX2_watch_10 : decode cX2_watch 10 = .ok (.ishr, 1) := by decide +kernel
theorem dX2_watch_11 : decode cX2_watch 11 = .ok (.iaload, 1) := by decide +kernel
theorem dX2_watch_12 : decode cX2_watch 12 = .ok (.iload_n 1, 1) := by decide +kernel
theorem dX2_watch_13 : decode cX2_watch 13 = .ok (.iconst 1, 1) := by decide +kernel
theorem dX2_watch_14 : decode cX2_watch 14 = .ok (.iand, 1) := by decide +kernel
theorem dX2_watch_15 : decode cX2_watch 15 = .ok (.iadd, 1) := by decide +kernel
theorem dX2_watch_16 : decode cX2_watch 16 = .ok (.iaload, 1) := by decide +kernel
theorem dX2_watch_17 : decode cX2_watch 17 = .ok (.istore_n 2, 1) := by decide +kernel
theorem dX2_watch_18 : decode cX2_watch 18 = .ok (.aload_n 0, 1) := by decide +kernel
theorem dX2_watch_19 : decode cX2_watch 19 = .ok (.getfield 21, 3) := by decide +kernel
theorem dX2_watch_22 : decode cX2_watch 22 = .ok (.iload_n 1, 1) := by decide +kernel
theorem dX2_watch_23 : decode cX2_watch 23 = .ok (.aload_n 0, 1) := by decide +kernel
theorem dX2_watch_24 : decode cX2_watch 24 = .ok (.getfield 18, 3) := by decide +kernel
theorem dX2_watch_27 : decode cX2_watch 27 = .ok (.iload_n 2, 1) := by decide +kernel
theorem dX2_watch_28 : decode cX2_watch 28 = .ok (.iaload, 1) := by decide +kernel
theorem dX2_watch_29 : decode cX2_watch 29 = .ok (.iastore, 1) := by decide +kernel
theorem dX2_watch_30 : decode cX2_watch 30 = .ok (.aload_n 0, 1) := by decide +kernel
theorem dX2_watch_31 : decode cX2_watch 31 = .ok (.getfield 18, 3) := by decide +kernel
theorem dX2_watch_34 : decode cX2_watch 34 = .ok (.iload_n 2, 1) := by decide +kernel
theorem dX2_watch_35 : decode cX2_watch 35 = .ok (.iload_n 1, 1) := by decide +kernel
theorem dX2_watch_36 : decode cX2_watch 36 = .ok (.iastore, 1) := by decide +kernel
theorem dX2_watch_37 : decode cX2_watch 37 = .ok (.return_, 1) := by decide +kernel
theorem dX2_exchange_0 : decode cX2_exchange 0 = .ok (.aload_n 0, 1) := by decide +kernel
theorem dX2_exchange_1 : decode cX2_exchange 1 = .ok (.getfield 15, 3) := by decide +kernel
theorem dX2_exchange_4 : decode cX2_exchange 4 = .ok (.iload_n 1, 1) := by decide +kernel
theorem dX2_exchange_5 : decode cX2_exchange 5 = .ok (.iconst 1, 1) := by decide +kernel
theorem dX2_exchange_6 : decode cX2_exchange 6 = .ok (.ishr, 1) := by decide +kernel
theorem dX2_exchange_7 : decode cX2_exchange 7 = .ok (.iaload, 1) := by decide +kernel
theorem dX2_exchange_8 : decode cX2_exchange 8 = .ok (.iload_n 1, 1) := by decide +kernel
theorem dX2_exchange_9 : decode cX2_exchange 9 = .ok (.iconst 1, 1) := by decide +kernel
theorem dX2_exchange_10 : decode cX2_exchange 10 = .ok (.iand, 1) := by decide +kernel
theorem dX2_exchange_11 : decode cX2_exchange 11 = .ok (.iadd, 1) := by decide +kernel
theorem dX2_exchange_12 : decode cX2_exchange 12 = .ok (.istore_n 3, 1) := by decide +kernel
theorem dX2_exchange_13 : decode cX2_exchange 13 = .ok (.aload_n 0, 1) := by decide +kernel
theorem dX2_exchange_14 : decode cX2_exchange 14 = .ok (.getfield 11, 3) := by decide +kernel
theorem dX2_exchange_17 : decode cX2_exchange 17 = .ok (.iload_n 2, 1) := by decide +kernel
theorem dX2_exchange_18 : decode cX2_exchange 18 = .ok (.iaload, 1) := by decide +kernel
theorem dX2_exchange_19 : decode cX2_exchange 19 = .ok (.istore 4, 2) := by decide +kernel
theorem dX2_exchange_21 : decode cX2_exchange 21 = .ok (.aload_n 0, 1) := by decide +kernel
theorem dX2_exchange_22 : decode cX2_exchange 22 = .ok (.getfield 11, 3) := by decide +kernel
theorem dX2_exchange_25 : decode cX2_exchange 25 = .ok (.iload_n 2, 1) := by decide +kernel
theorem dX2_exchange_26 : decode cX2_exchange 26 = .ok (.aload_n 0, 1) := by decide +kernel
theorem dX2_exchange_27 : decode cX2_exchange 27 = .ok (.getfield 11, 3) := by decide +kernel
theorem dX2_exchange_30 : decode cX2_exchange 30 = .ok (.iload_n 3, 1) := by decide +kernel
theorem dX2_exchange_31 : decode cX2_exchange 31 = .ok (.iaload, 1) := by decide +kernel
theorem dX2_exchange_32 : decode cX2_exchange 32 = .ok (.iastore, 1) := by decide +kernel
theorem dX2_exchange_33 : decode cX2_exchange 33 = .ok (.aload_n 0, 1) := by decide +kernel
theorem dX2_exchange_34 : decode cX2_exchange 34 = .ok (.getfield 11, 3) := by decide +kernel
theorem dX2_exchange_37 : decode cX2_exchange 37 = .ok (.iload_n 3, 1) := by decide +kernel
theorem dX2_exchange_38 : decode cX2_exchange 38 = .ok (.iload 4, 2) := by decide +kernel
theorem dX2_exchange_40 : decode cX2_exchange 40 = .ok (.iastore, 1) := by decide +kernel
theorem dX2_exchange_41 : decode cX2_exchange 41 = .ok (.aload_n 0, 1) := by decide +kernel
theorem dX2_exchange_42 : decode cX2_exchange 42 = .ok (.iload_n 1, 1) := by decide +kernel
theorem dX2_exchange_43 : decode cX2_exchange 43 = .ok (.invokevirtual 40, 3) := by decide +kernel
theorem dX2_exchange_46 : decode cX2_exchange 46 = .ok (.return_, 1) := by decide +kernel
theorem dX3_init_0 : decode cX3_init 0 = .ok (.aload_n 0, 1) := by decide +kernel
theorem dX3_init_1 : decode cX3_init 1 = .ok (.invokespecial 3, 3) := by decide +kernel
theorem dX3_init_4 : decode cX3_init 4 = .ok (.aload_n 0, 1) := by decide +kernel
theorem dX3_init_5 : decode cX3_init 5 = .ok (.sipush 1065, 3) := by decide +kernel
theorem dX3_init_8 : decode cX3_init 8 = .ok (.newarray .int, 2) := by decide +kernel
theorem dX3_init_10 : decode cX3_init 10 = .ok (.putfield 9, 3) := by decide +kernel
theorem dX3_init_13 : decode cX3_init 13 = .ok (.aload_n 0, 1) := by decide +kernel
theorem dX3_init_14 : decode cX3_init 14 = .ok (.sipush 1065, 3) := by decide +kernel
theorem dX3_init_17 : decode cX3_init 17 = .ok (.newarray .int, 2) := by decide +kernel
theorem dX3_init_19 : decode cX3_init 19 = .ok (.putfield 15, 3) := by decide +kernel
theorem dX3_init_22 : decode cX3_init 22 = .ok (.aload_n 0, 1) := by decide +kernel
theorem dX3_init_23 : decode cX3_init 23 = .ok (.sipush 1065, 3) := by decide +kernel
theorem dX3_init_26 : decode cX3_init 26 = .ok (.newarray .int, 2) := by decide +kernel
theorem dX3_init_28 : decode cX3_init 28 = .ok (.putfield 18, 3) := by decide +kernel
theorem dX3_init_31 : decode cX3_init 31 = .ok (.aload_n 0, 1) := by decide +kernel
theorem dX3_init_32 : decode cX3_init 32 = .ok (.sipush 1065, 3) := by decide +kernel
theorem dX3_init_35 : decode cX3_init 35 = .ok (.newarray .int, 2) := by decide +kernel
theorem dX3_init_37 : decode cX3_init 37 = .ok (.putfield 21, 3) := by decide +kernel
theorem dX3_init_40 : decode cX3_init 40 = .ok (.aload_n 0, 1) := by decide +kernel
theorem dX3_init_41 : decode cX3_init 41 = .ok (.sipush 1065, 3) := by decide +kernel
theorem dX3_init_44 : decode cX3_init 44 = .ok (.newarray .int, 2) := by decide +kernel
theorem dX3_init_46 : decode cX3_init 46 = .ok (.putfield 24, 3) := by decide +kernel
theorem dX3_init_49 : decode cX3_init 49 = .ok (.aload_n 0, 1) := by decide +kernel
theorem dX3_init_50 : decode cX3_init 50 = .ok (.bipush 9, 2) := by decide +kernel
theorem dX3_init_52 : decode cX3_init 52 = .ok (.putfield 27, 3) := by decide +kernel
theorem dX3_init_55 : decode cX3_init 55 = .ok (.return_, 1) := by decide +kernel
theorem dX3_and_0 : decode cX3_and 0 = .ok (.iload_n 1, 1) := by decide +kernel
theorem dX3_and_1 : decode cX3_and 1 = .ok (.iconst 1, 1) := by decide +kernel
theorem dX3_and_2 : decode cX3_and 2 = .ok (.if_icmp .eq 15, 3) := by decide +kernel
theorem dX3_and_5 : decode cX3_and 5 = .ok (.iload_n 2, 1) := by decide +kernel
theorem dX3_and_6 : decode cX3_and 6 = .ok (.iconst 1, 1) := by decide +kernel
theorem dX3_and_7 : decode cX3_and 7 = .ok (.if_icmp .eq 10, 3) := by decide +kernel
theorem dX3_and_10 : decode cX3_and 10 = .ok (.iload_n 1, 1) := by decide +kernel
theorem dX3_and_11 : decode cX3_and 11 = .ok (.iload_n 2, 1) := by decide +kernel
theorem dX3_and_12 : decode cX3_and 12 = .ok (.iconst 1, 1) := by decide +kernel
theorem dX3_and_13 : decode cX3_and 13 = .ok (.ixor, 1) := by decide +kernel
theorem dX3_and_14 : decode cX3_and 14 = .ok (.if_icmp .ne 5, 3) := by decide +kernel
theorem dX3_and_17 : decode cX3_and 17 = .ok (.iconst 1, 1) := by decide +kernel
theorem dX3_and_18 : decode cX3_and 18 = .ok (.ireturn, 1) := by decide +kernel
theorem dX3_and_19 : decode cX3_and 19 = .ok (.iload_n 1, 1) := by decide +kernel
theorem dX3_and_20 : decode cX3_and 20 = .ok (.ifCond .eq 8, 3) := by decide +kernel
theorem dX3_and_23 : decode cX3_and 23 = .ok (.iload_n 1, 1) := by decide +kernel
theorem dX3_and_24 : decode cX3_and 24 = .ok (.iload_n 2, 1) := by decide +kernel
theorem dX3_and_25 : decode cX3_and 25 = .ok (.if_icmp .ne 5, 3) := by decide +kernel
theorem dX3_and_28 : decode cX3_and 28 = .ok (.iload_n 2, 1) := by decide +kernel
theorem dX3_and_29 : decode cX3_and 29 = .ok (.ireturn, 1) := by decide +kernel
theorem dX3_and_30 : decode cX3_and 30 = .ok (.iload_n 2, 1) := by decide +kernel
theorem dX3_and_31 : decode cX3_and 31 = .ok (.ifCond .ne 7, 3) := by decide +kernel
theorem dX3_and_34 : decode cX3_and 34 = .ok (.iload_n 1, 1) := by decide +kernel
theorem dX3_and_35 : decode cX3_and 35 = .ok (.goto 11, 3) := by decide +kernel
theorem dX3_and_38 : decode cX3_and 38 = .ok (.aload_n 0, 1) := by decide +kernel
theorem dX3_and_39 : decode cX3_and 39 = .ok (.iconst 0, 1) := by decide +kernel
theorem dX3_and_40 : decode cX3_and 40 = .ok (.iconst 0, 1) := by decide +kernel
theorem dX3_and_41 : decode cX3_and 41 = .ok (.iload_n 1, 1) := by decide +kernel
theorem dX3_and_42 : decode cX3_and 42 = .ok (.iload_n 2, 1) := by decide +kernel
theorem dX3_and_43 : decode cX3_and 43 = .ok (.invokevirtual 31, 3) := by decide +kernel
theorem dX3_and_46 : decode cX3_and 46 = .ok (.ireturn, 1) := by decide +kernel
theorem dX3_or_0 : decode cX3_or 0 = .ok (.aload_n 0, 1) := by decide +kernel
theorem dX3_or_1 : decode cX3_or 1 = .ok (.iload_n 1, 1) := by decide +kernel
theorem dX3_or_2 : decode cX3_or 2 = .ok (.iconst 1, 1) := by decide +kernel
theorem dX3_or_3 : decode cX3_or 3 = .ok (.ixor, 1) := by decide +kernel
theorem dX3_or_4 : decode cX3_or 4 = .ok (.iload_n 2, 1) := by decide +kernel
theorem dX3_or_5 : decode cX3_or 5 = .ok (.iconst 1, 1) := by decide +kernel
theorem dX3_or_6 : decode cX3_or 6 = .ok (.ixor, 1) := by decide +kernel
theorem dX3_or_7 : decode cX3_or 7 = .ok (.invokevirtual 35, 3) := by decide +kernel
theorem dX3_or_10 : decode cX3_or 10 = .ok (.iconst 1, 1) := by decide +kernel
theorem dX3_or_11 : decode cX3_or 11 = .ok (.ixor, 1) := by decide +kernel
theorem dX3_or_12 : decode cX3_or 12 = .ok (.ireturn, 1) := by decide +kernel
theorem dX3_xor_0 : decode cX3_xor 0 = .ok (.iload_n 1, 1) := by decide +kernel
theorem dX3_xor_1 : decode cX3_xor 1 = .ok (.iconst 1, 1) := by decide +kernel
theorem dX3_xor_2 : decode cX3_xor 2 = .ok (.ishr, 1) := by decide +kernel
theorem dX3_xor_3 : decode cX3_xor 3 = .ok (.iload_n 2, 1) := by decide +kernel
theorem dX3_xor_4 : decode cX3_xor 4 = .ok (.iconst 1, 1) := by decide +kernel
theorem dX3_xor_5 : decode cX3_xor 5 = .ok (.ishr, 1) := by decide +kernel
theorem dX3_xor_6 : decode cX3_xor 6 = .ok (.if_icmp .ne 14, 3) := by decide +kernel
theorem dX3_xor_9 : decode cX3_xor 9 = .ok (.iload_n 1, 1) := by decide +kernel
theorem dX3_xor_10 : decode cX3_xor 10 = .ok (.iload_n 2, 1) := by decide +kernel
theorem dX3_xor_11 : decode cX3_xor 11 = .ok (.if_icmp .ne 7, 3) := by decide +kernel
theorem dX3_xor_14 : decode cX3_xor 14 = .ok (.iconst 1, 1) := by decide +kernel
theorem dX3_xor_15 : decode cX3_xor 15 = .ok (.goto 4, 3) := by decide +kernel
theorem dX3_xor_18 : decode cX3_xor 18 = .ok (.iconst 0, 1) := by decide +kernel
theorem dX3_xor_19 : decode cX3_xor 19 = .ok (.ireturn, 1) := by decide +kernel
theorem dX3_xor_20 : decode cX3_xor 20 = .ok (.iload_n 1, 1) := by decide +kernel
theorem dX3_xor_21 : decode cX3_xor 21 = .ok (.iconst 1, 1) := by decide +kernel
theorem dX3_xor_22 : decode cX3_xor 22 = .ok (.ishr, 1) := by decide +kernel
theorem dX3_xor_23 : decode cX3_xor 23 = .ok (.ifCond .ne 9, 3) := by decide +kernel
theorem dX3_xor_26 : decode cX3_xor 26 = .ok (.iload_n 2, 1) := by decide +kernel
theorem dX3_xor_27 : decode cX3_xor 27 = .ok (.iload_n 1, 1) := by decide +kernel
theorem dX3_xor_28 : decode cX3_xor 28 = .ok (.ixor, 1) := by decide +kernel
theorem dX3_xor_29 : decode cX3_xor 29 = .ok (.iconst 1, 1) := by decide +kernel
theorem dX3_xor_30 : decode cX3_xor 30 = .ok (.ixor, 1) := by decide +kernel
theorem dX3_xor_31 : decode cX3_xor 31 = .ok (.ireturn, 1) := by decide +kernel
theorem dX3_xor_32 : decode cX3_xor 32 = .ok (.iload_n 2, 1) := by decide +kernel
theorem dX3_xor_33 : decode cX3_xor 33 = .ok (.iconst 1, 1) := by decide +kernel
theorem dX3_xor_34 : decode cX3_xor 34 = .ok (.ishr, 1) := by decide +kernel
theorem dX3_xor_35 : decode cX3_xor 35 = .ok (.ifCond .ne 11, 3) := by decide +kernel
theorem dX3_xor_38 : decode cX3_xor 38 = .ok (.iload_n 1, 1) := by decide +kernel
theorem dX3_xor_39 : decode cX3_xor 39 = .ok (.iload_n 2, 1) := by decide +kernel
theorem dX3_xor_40 : decode cX3_xor 40 = .ok (.ixor, 1) := by decide +kernel
theorem dX3_xor_41 : decode cX3_xor 41 = .ok (.iconst 1, 1) := by decide +kernel
theorem dX3_xor_42 : decode cX3_xor 42 = .ok (.ixor, 1) := by decide +kernel
theorem dX3_xor_43 : decode cX3_xor 43 = .ok (.goto 11, 3) := by decide +kernel
theorem dX3_xor_46 : decode cX3_xor 46 = .ok (.aload_n 0, 1) := by decide +kernel
theorem dX3_xor_47 : decode cX3_xor 47 = .ok (.iconst 1, 1) := by decide +kernel
theorem dX3_xor_48 : decode cX3_xor 48 = .ok (.iconst 0, 1) := by decide +kernel
theorem dX3_xor_49 : decode cX3_xor 49 = .ok (.iload_n 1, 1) := by decide +kernel
theorem dX3_xor_50 : decode cX3_xor 50 = .ok (.iload_n 2, 1) := by decide +kernel
theorem dX3_xor_51 : decode cX3_xor 51 = .ok (.invokevirtual 31, 3) := by decide +kernel
theorem dX3_xor_54 : decode cX3_xor 54 = .ok (.ireturn, 1) := by decide +kernel
theorem dX3_mux_0 : decode cX3_mux 0 = .ok (.iload_n 1, 1) := by decide +kernel
theorem dX3_mux_1 : decode cX3_mux 1 = .ok (.iconst 1, 1) := by decide +kernel
theorem dX3_mux_2 : decode cX3_mux 2 = .ok (.ishr, 1) := by decide +kernel
theorem dX3_mux_3 : decode cX3_mux 3 = .ok (.ifCond .ne 13, 3) := by decide +kernel
theorem dX3_mux_6 : decode cX3_mux 6 = .ok (.iload_n 1, 1) := by decide +kernel
theorem dX3_mux_7 : decode cX3_mux 7 = .ok (.ifCond .ne 7, 3) := by decide +kernel
theorem dX3_mux_10 : decode cX3_mux 10 = .ok (.iload_n 2, 1) := by decide +kernel
theorem dX3_mux_11 : decode cX3_mux 11 = .ok (.goto 4, 3) := by decide +kernel
theorem dX3_mux_14 : decode cX3_mux 14 = .ok (.iload_n 3, 1) := by decide +kernel
theorem dX3_mux_15 : decode cX3_mux 15 = .ok (.ireturn, 1) := by decide +kernel
theorem dX3_mux_16 : decode cX3_mux 16 = .ok (.iload_n 2, 1) := by decide +kernel
theorem dX3_mux_17 : decode cX3_mux 17 = .ok (.iconst 1, 1) := by decide +kernel
theorem dX3_mux_18 : decode cX3_mux 18 = .ok (.ishr, 1) := by decide +kernel
theorem dX3_mux_19 : decode cX3_mux 19 = .ok (.iload_n 1, 1) := by decide +kernel
theorem dX3_mux_20 : decode cX3_mux 20 = .ok (.iconst 1, 1) := by decide +kernel
theorem dX3_mux_21 : decode cX3_mux 21 = .ok (.ishr, 1) := by decide +kernel
theorem dX3_mux_22 : decode cX3_mux 22 = .ok (.if_icmp .ne 9, 3) := by decide +kernel
theorem dX3_mux_25 : decode cX3_mux 25 = .ok (.iload_n 2, 1) := by decide +kernel
theorem dX3_mux_26 : decode cX3_mux 26 = .ok (.iload_n 1, 1) := by decide +kernel
theorem dX3_mux_27 : decode cX3_mux 27 = .ok (.ixor, 1) := by decide +kernel
theorem dX3_mux_28 : decode cX3_mux 28 = .ok (.goto 4, 3) := by decide +kernel
theorem dX3_mux_31 : decode cX3_mux 31 = .ok (.iload_n 2, 1) := by decide +kernel
theorem dX3_mux_32 : decode cX3_mux 32 = .ok (.istore 4, 2) := by decide +kernel
theorem dX3_mux_34 : decode cX3_mux 34 = .ok (.iload_n 3, 1) := by decide +kernel
theorem dX3_mux_35 : decode cX3_mux 35 = .ok (.iconst 1, 1) := by decide +kernel
theorem dX3_mux_36 : decode cX3_mux 36 = .ok (.ishr, 1) := by decide +kernel
theorem dX3_mux_37 : decode cX3_mux 37 = .ok (.iload_n 1, 1) := by decide +kernel
theorem dX3_mux_38 : decode cX3_mux 38 = .ok (.iconst 1, 1) := by decide +kernel
theorem dX3_mux_39 : decode cX3_mux 39 = .ok (.ishr, 1) := by decide +kernel
theorem dX3_mux_40 : decode cX3_mux 40 = .ok (.if_icmp .ne 11, 3) := by decide +kernel
theorem dX3_mux_43 : decode cX3_mux 43 = .ok (.iload_n 3, 1) := by decide +kernel
theorem dX3_mux_44 : decode cX3_mux 44 = .ok (.iload_n 1, 1) := by decide +kernel
theorem dX3_mux_45 : decode cX3_mux 45 = .ok (.ixor, 1) := by decide +kernel
theorem dX3_mux_46 : decode cX3_mux 46 = .ok (.iconst 1, 1) := by decide +kernel
theorem dX3_mux_47 : decode cX3_mux 47 = .ok (.ixor, 1) := by decide +kernel
theorem dX3_mux_48 : decode cX3_mux 48 = .ok (.goto 4, 3) := by decide +kernel
theorem dX3_mux_51 : decode cX3_mux 51 = .ok (.iload_n 3, 1) := by decide +kernel
theorem dX3_mux_52 : decode cX3_mux 52 = .ok (.istore 5, 2) := by decide +kernel
theorem dX3_mux_54 : decode cX3_mux 54 = .ok (.iload 4, 2) := by decide +kernel
theorem dX3_mux_56 : decode cX3_mux 56 = .ok (.iload 5, 2) := by decide +kernel
theorem dX3_mux_58 : decode cX3_mux 58 = .ok (.if_icmp .ne 6, 3) := by decide +kernel
theorem dX3_mux_61 : decode cX3_mux 61 = .ok (.iload 4, 2) := by decide +kernel
theorem dX3_mux_63 : decode cX3_mux 63 = .ok (.ireturn, 1) := by decide +kernel
theorem dX3_mux_64 : decode cX3_mux 64 = .ok (.iload 4, 2) := by decide +kernel
theorem dX3_mux_66 : decode cX3_mux 66 = .ok (.iconst 1, 1) := by decide +kernel
theorem dX3_mux_67 : decode cX3_mux 67 = .ok (.ishr, 1) := by decide +kernel
theorem dX3_mux_68 : decode cX3_mux 68 = .ok (.ifCond .ne 35, 3) := by decide +kernel
theorem dX3_mux_71 : decode cX3_mux 71 = .ok (.iload 4, 2) := by decide +kernel
theorem dX3_mux_73 : decode cX3_mux 73 = .ok (.iconst 1, 1) := by decide +kernel
theorem dX3_mux_74 : decode cX3_mux 74 = .ok (.if_icmp .ne 15, 3) := by decide +kernel
theorem dX3_mux_77 : decode cX3_mux 77 = .ok (.aload_n 0, 1) := by decide +kernel
theorem dX3_mux_78 : decode cX3_mux 78 = .ok (.iload_n 1, 1) := by decide +kernel
theorem dX3_mux_79 : decode cX3_mux 79 = .ok (.iconst 1, 1) := by decide +kernel
theorem dX3_mux_80 : decode cX3_mux 80 = .ok (.ixor, 1) := by decide +kernel
theorem dX3_mux_81 : decode cX3_mux 81 = .ok (.iload 5, 2) := by decide +kernel
theorem dX3_mux_83 : decode cX3_mux 83 = .ok (.invokevirtual 35, 3) := by decide +kernel
theorem dX3_mux_86 : decode cX3_mux 86 = .ok (.goto 16, 3) := by decide +kernel
theorem dX3_mux_89 : decode cX3_mux 89 = .ok (.aload_n 0, 1) := by decide +kernel
theorem dX3_mux_90 : decode cX3_mux 90 = .ok (.iload_n 1, 1) := by decide +kernel
theorem dX3_mux_91 : decode cX3_mux 91 = .ok (.iconst 1, 1) := by decide +kernel
theorem dX3_mux_92 : decode cX3_mux 92 = .ok (.ixor, 1) := by decide +kernel
theorem dX3_mux_93 : decode cX3_mux 93 = .ok (.iload 5, 2) := by decide +kernel
theorem dX3_mux_95 : decode cX3_mux 95 = .ok (.iconst 1, 1) := by decide +kernel
theorem dX3_mux_96 : decode cX3_mux 96 = .ok (.ixor, 1) := by decide +kernel
theorem dX3_mux_97 : decode cX3_mux 97 = .ok (.invokevirtual 35, 3) := by decide +kernel
theorem dX3_mux_100 : decode cX3_mux 100 = .ok (.iconst 1, 1) := by decide +kernel
theorem dX3_mux_101 : decode cX3_mux 101 = .ok (.ixor, 1) := by decide +kernel
theorem dX3_mux_102 : decode cX3_mux 102 = .ok (.ireturn, 1) := by decide +kernel
theorem dX3_mux_103 : decode cX3_mux 103 = .ok (.iload 5, 2) := by decide +kernel
theorem dX3_mux_105 : decode cX3_mux 105 = .ok (.iconst 1, 1) := by decide +kernel
theorem dX3_mux_106 : decode cX3_mux 106 = .ok (.ishr, 1) := by decide +kernel
theorem dX3_mux_107 : decode cX3_mux 107 = .ok (.ifCond .ne 31, 3) := by decide +kernel
theorem dX3_mux_110 : decode cX3_mux 110 = .ok (.iload 5, 2) := by decide +kernel
theorem dX3_mux_112 : decode cX3_mux 112 = .ok (.iconst 1, 1) := by decide +kernel
theorem dX3_mux_113 : decode cX3_mux 113 = .ok (.if_icmp .ne 13, 3) := by decide +kernel
theorem dX3_mux_116 : decode cX3_mux 116 = .ok (.aload_n 0, 1) := by decide +kernel
theorem dX3_mux_117 : decode cX3_mux 117 = .ok (.iload_n 1, 1) := by decide +kernel
theorem dX3_mux_118 : decode cX3_mux 118 = .ok (.iload 4, 2) := by decide +kernel
theorem dX3_mux_120 : decode cX3_mux 120 = .ok (.invokevirtual 35, 3) := by decide +kernel
theorem dX3_mux_123 : decode cX3_mux 123 = .ok (.goto 14, 3) := by decide +kernel
theorem dX3_mux_126 : decode cX3_mux 126 = .ok (.aload_n 0, 1) := by decide +kernel
theorem dX3_mux_127 : decode cX3_mux 127 = .ok (.iload_n 1, 1) := by decide +kernel
theorem dX3_mux_128 : decode cX3_mux 128 = .ok (.iload 4, 2) := by decide +kernel
theorem dX3_mux_130 : decode cX3_mux 130 = .ok (.iconst 1, 1) := by decide +kernel
theorem dX3_mux_131 : decode cX3_mux 131 = .ok (.ixor, 1) := by decide +kernel
theorem dX3_mux_132 : decode cX3_mux 132 = .ok (.invokevirtual 35, 3) := by decide +kernel
theorem dX3_mux_135 : decode cX3_mux 135 = .ok (.iconst 1, 1) := by decide +kernel
theorem dX3_mux_136 : decode cX3_mux 136 = .ok (.ixor, 1) := by decide +kernel
theorem dX3_mux_137 : decode cX3_mux 137 = .ok (.ireturn, 1) := by decide +kernel
theorem dX3_mux_138 : decode cX3_mux 138 = .ok (.aload_n 0, 1) := by decide +kernel
theorem dX3_mux_139 : decode cX3_mux 139 = .ok (.iconst 2, 1) := by decide +kernel
theorem dX3_mux_140 : decode cX3_mux 140 = .ok (.iload_n 1, 1) := by decide +kernel
theorem dX3_mux_141 : decode cX3_mux 141 = .ok (.iload 4, 2) := by decide +kernel
theorem dX3_mux_143 : decode cX3_mux 143 = .ok (.iload 5, 2) := by decide +kernel
theorem dX3_mux_145 : decode cX3_mux 145 = .ok (.invokevirtual 31, 3) := by decide +kernel
theorem dX3_mux_148 : decode cX3_mux 148 = .ok (.ireturn, 1) := by decide +kernel
theorem dX3_put_0 : decode cX3_put 0 = .ok (.aload_n 0, 1) := by decide +kernel
theorem dX3_put_1 : decode cX3_put 1 = .ok (.getfield 27, 3) := by decide +kernel
theorem dX3_put_4 : decode cX3_put 4 = .ok (.sipush 1065, 3) := by decide +kernel
theorem dX3_put_7 : decode cX3_put 7 = .ok (.if_icmp .lt 5, 3) := by decide +kernel
theorem dX3_put_10 : decode cX3_put 10 = .ok (.iconst 1, 1) := by decide +kernel
theorem dX3_put_11 : decode cX3_put 11 = .ok (.ireturn, 1) := by decide +kernel
theorem dX3_put_12 : decode cX3_put 12 = .ok (.aload_n 0, 1) := by decide +kernel
theorem dX3_put_13 : decode cX3_put 13 = .ok (.getfield 9, 3) := by decide +kernel
theorem dX3_put_16 : decode cX3_put 16 = .ok (.aload_n 0, 1) := by decide +kernel
theorem dX3_put_17 : decode cX3_put 17 = .ok (.getfield 27, 3) := by decide +kernel
theorem dX3_put_20 : decode cX3_put 20 = .ok (.iload_n 1, 1) := by decide +kernel
theorem dX3_put_21 : decode cX3_put 21 = .ok (.iastore, 1) := by decide +kernel
theorem dX3_put_22 : decode cX3_put 22 = .ok (.aload_n 0, 1) := by decide +kernel
theorem dX3_put_23 : decode cX3_put 23 = .ok (.getfield 21, 3) := by decide +kernel
theorem dX3_put_26 : decode cX3_put 26 = .ok (.aload_n 0, 1) := by decide +kernel
theorem dX3_put_27 : decode cX3_put 27 = .ok (.getfield 27, 3) := by decide +kernel
theorem dX3_put_30 : decode cX3_put 30 = .ok (.iload_n 2, 1) := by decide +kernel
theorem dX3_put_31 : decode cX3_put 31 = .ok (.iastore, 1) := by decide +kernel
theorem dX3_put_32 : decode cX3_put 32 = .ok (.aload_n 0, 1) := by decide +kernel
theorem dX3_put_33 : decode cX3_put 33 = .ok (.getfield 15, 3) := by decide +kernel
theorem dX3_put_36 : decode cX3_put 36 = .ok (.aload_n 0, 1) := by decide +kernel
theorem dX3_put_37 : decode cX3_put 37 = .ok (.getfield 27, 3) := by decide +kernel
theorem dX3_put_40 : decode cX3_put 40 = .ok (.iload_n 3, 1) := by decide +kernel
theorem dX3_put_41 : decode cX3_put 41 = .ok (.iastore, 1) := by decide +kernel
theorem dX3_put_42 : decode cX3_put 42 = .ok (.aload_n 0, 1) := by decide +kernel
theorem dX3_put_43 : decode cX3_put 43 = .ok (.getfield 18, 3) := by decide +kernel
theorem dX3_put_46 : decode cX3_put 46 = .ok (.aload_n 0, 1) := by decide +kernel
theorem dX3_put_47 : decode cX3_put 47 = .ok (.getfield 27, 3) := by decide +kernel
theorem dX3_put_50 : decode cX3_put 50 = .ok (.iload 4, 2) := by decide +kernel
theorem dX3_put_52 : decode cX3_put 52 = .ok (.iastore, 1) := by decide +kernel
theorem dX3_put_53 : decode cX3_put 53 = .ok (.aload_n 0, 1) := by decide +kernel
theorem dX3_put_54 : decode cX3_put 54 = .ok (.dup, 1) := by decide +kernel
theorem dX3_put_55 : decode cX3_put 55 = .ok (.getfield 27, 3) := by decide +kernel
theorem dX3_put_58 : decode cX3_put 58 = .ok (.iconst 1, 1) := by decide +kernel
theorem dX3_put_59 : decode cX3_put 59 = .ok (.iadd, 1) := by decide +kernel
theorem dX3_put_60 : decode cX3_put 60 = .ok (.putfield 27, 3) := by decide +kernel
theorem dX3_put_63 : decode cX3_put 63 = .ok (.iconst 2, 1) := by decide +kernel
theorem dX3_put_64 : decode cX3_put 64 = .ok (.aload_n 0, 1) := by decide +kernel
theorem dX3_put_65 : decode cX3_put 65 = .ok (.getfield 27, 3) := by decide +kernel
theorem dX3_put_68 : decode cX3_put 68 = .ok (.iconst 1, 1) := by decide +kernel
theorem dX3_put_69 : decode cX3_put 69 = .ok (.isub, 1) := by decide +kernel
theorem dX3_put_70 : decode cX3_put 70 = .ok (.imul, 1) := by decide +kernel
theorem dX3_put_71 : decode cX3_put 71 = .ok (.ireturn, 1) := by decide +kernel
theorem dX3_simulate_0 : decode cX3_simulate 0 = .ok (.iload_n 1, 1) := by decide +kernel
theorem dX3_simulate_1 : decode cX3_simulate 1 = .ok (.iconst 1, 1) := by decide +kernel
theorem dX3_simulate_2 : decode cX3_simulate 2 = .ok (.ishr, 1) := by decide +kernel
theorem dX3_simulate_3 : decode cX3_simulate 3 = .ok (.istore_n 3, 1) := by decide +kernel
theorem dX3_simulate_4 : decode cX3_simulate 4 = .ok (.iload_n 3, 1) := by decide +kernel
theorem dX3_simulate_5 : decode cX3_simulate 5 = .ok (.ifCond .lt 11, 3) := by decide +kernel
theorem dX3_simulate_8 : decode cX3_simulate 8 = .ok (.iload_n 3, 1) := by decide +kernel
theorem dX3_simulate_9 : decode cX3_simulate 9 = .ok (.aload_n 0, 1) := by decide +kernel
theorem dX3_simulate_10 : decode cX3_simulate 10 = .ok (.getfield 27, 3) := by decide +kernel
theorem dX3_simulate_13 : decode cX3_simulate 13 = .ok (.if_icmp .lt 5, 3) := by decide +kernel
theorem dX3_simulate_16 : decode cX3_simulate 16 = .ok (.iconst 0, 1) := by decide +kernel
theorem dX3_simulate_17 : decode cX3_simulate 17 = .ok (.ireturn, 1) := by decide +kernel
theorem dX3_simulate_18 : decode cX3_simulate 18 = .ok (.aload_n 0, 1) := by decide +kernel
theorem dX3_simulate_19 : decode cX3_simulate 19 = .ok (.getfield 24, 3) := by decide +kernel
theorem dX3_simulate_22 : decode cX3_simulate 22 = .ok (.iconst 0, 1) := by decide +kernel
theorem dX3_simulate_23 : decode cX3_simulate 23 = .ok (.iconst 1, 1) := by decide +kernel
theorem dX3_simulate_24 : decode cX3_simulate 24 = .ok (.iastore, 1) := by decide +kernel
theorem dX3_simulate_25 : decode cX3_simulate 25 = .ok (.iconst 0, 1) := by decide +kernel
theorem dX3_simulate_26 : decode cX3_simulate 26 = .ok (.istore 4, 2) := by decide +kernel
theorem dX3_simulate_28 : decode cX3_simulate 28 = .ok (.iload 4, 2) := by decide +kernel
theorem dX3_simulate_30 : decode cX3_simulate 30 = .ok (.bipush 8, 2) := by decide +kernel
theorem dX3_simulate_32 : decode cX3_simulate 32 = .ok (.if_icmp .ge 24, 3) := by decide +kernel
theorem dX3_simulate_35 : decode cX3_simulate 35 = .ok (.aload_n 0, 1) := by decide +kernel
theorem dX3_simulate_36 : decode cX3_simulate 36 = .ok (.getfield 24, 3) := by decide +kernel
theorem dX3_simulate_39 : decode cX3_simulate 39 = .ok (.iconst 1, 1) := by decide +kernel
theorem dX3_simulate_40 : decode cX3_simulate 40 = .ok (.iload 4, 2) := by decide +kernel
theorem dX3_simulate_42 : decode cX3_simulate 42 = .ok (.iadd, 1) := by decide +kernel
theorem dX3_simulate_43 : decode cX3_simulate 43 = .ok (.iload_n 2, 1) := by decide +kernel
theorem dX3_simulate_44 : decode cX3_simulate 44 = .ok (.iload 4, 2) := by decide +kernel
theorem dX3_simulate_46 : decode cX3_simulate 46 = .ok (.ishr, 1) := by decide +kernel
theorem dX3_simulate_47 : decode cX3_simulate 47 = .ok (.iconst 1, 1) := by decide +kernel
theorem dX3_simulate_48 : decode cX3_simulate 48 = .ok (.iand, 1) := by decide +kernel
theorem dX3_simulate_49 : decode cX3_simulate 49 = .ok (.iastore, 1) := by decide +kernel
theorem dX3_simulate_50 : decode cX3_simulate 50 = .ok (.iinc 4 1, 3) := by decide +kernel
theorem dX3_simulate_53 : decode cX3_simulate 53 = .ok (.goto (-25), 3) := by decide +kernel
theorem dX3_simulate_56 : decode cX3_simulate 56 = .ok (.bipush 9, 2) := by decide +kernel
theorem dX3_simulate_58 : decode cX3_simulate 58 = .ok (.istore 4, 2) := by decide +kernel
theorem dX3_simulate_60 : decode cX3_simulate 60 = .ok (.iload 4, 2) := by decide +kernel
theorem dX3_simulate_62 : decode cX3_simulate 62 = .ok (.iload_n 3, 1) := by decide +kernel
theorem dX3_simulate_63 : decode cX3_simulate 63 = .ok (.if_icmp .gt 22, 3) := by decide +kernel
theorem dX3_simulate_66 : decode cX3_simulate 66 = .ok (.aload_n 0, 1) := by decide +kernel
theorem dX3_simulate_67 : decode cX3_simulate 67 = .ok (.getfield 24, 3) := by decide +kernel
theorem dX3_simulate_70 : decode cX3_simulate 70 = .ok (.iload 4, 2) := by decide +kernel
theorem dX3_simulate_72 : decode cX3_simulate 72 = .ok (.aload_n 0, 1) := by decide +kernel
theorem dX3_simulate_73 : decode cX3_simulate 73 = .ok (.iload 4, 2) := by decide +kernel
theorem dX3_simulate_75 : decode cX3_simulate 75 = .ok (.invokevirtual 39, 3) := by decide +kernel
theorem dX3_simulate_78 : decode cX3_simulate 78 = .ok (.iastore, 1) := by decide +kernel
theorem dX3_simulate_79 : decode cX3_simulate 79 = .ok (.iinc 4 1, 3) := by decide +kernel
theorem dX3_simulate_82 : decode cX3_simulate 82 = .ok (.goto (-22), 3) := by decide +kernel
theorem dX3_simulate_85 : decode cX3_simulate 85 = .ok (.aload_n 0, 1) := by decide +kernel
theorem dX3_simulate_86 : decode cX3_simulate 86 = .ok (.iload_n 1, 1) := by decide +kernel
theorem dX3_simulate_87 : decode cX3_simulate 87 = .ok (.invokevirtual 43, 3) := by decide +kernel
theorem dX3_simulate_90 : decode cX3_simulate 90 = .ok (.ireturn, 1) := by decide +kernel
theorem dX3_simulateGate_0 : decode cX3_simulateGate 0 = .ok (.aload_n 0, 1) := by decide +kernel
theorem dX3_simulateGate_1 : decode cX3_simulateGate 1 = .ok (.aload_n 0, 1) := by decide +kernel
theorem dX3_simulateGate_2 : decode cX3_simulateGate 2 = .ok (.getfield 15, 3) := by decide +kernel
theorem dX3_simulateGate_5 : decode cX3_simulateGate 5 = .ok (.iload_n 1, 1) := by decide +kernel
theorem dX3_simulateGate_6 : decode cX3_simulateGate 6 = .ok (.iaload, 1) := by decide +kernel
theorem dX3_simulateGate_7 : decode cX3_simulateGate 7 = .ok (.invokevirtual 43, 3) := by decide +kernel
theorem dX3_simulateGate_10 : decode cX3_simulateGate 10 = .ok (.istore_n 2, 1) := by decide +kernel
theorem dX3_simulateGate_11 : decode cX3_simulateGate 11 = .ok (.aload_n 0, 1) := by decide +kernel
theorem dX3_simulateGate_12 : decode cX3_simulateGate 12 = .ok (.aload_n 0, 1) := by decide +kernel
theorem dX3_simulateGate_13 : decode cX3_simulateGate 13 = .ok (.getfield 18, 3) := by decide +kernel
theorem dX3_simulateGate_16 : decode cX3_simulateGate 16 = .ok (.iload_n 1, 1) := by decide +kernel
theorem dX3_simulateGate_17 : decode cX3_simulateGate 17 = .ok (.iaload, 1) := by decide +kernel
theorem dX3_simulateGate_18 : decode cX3_simulateGate 18 = .ok (.invokevirtual 43, 3) := by decide +kernel
theorem dX3_simulateGate_21 : decode cX3_simulateGate 21 = .ok (.istore_n 3, 1) := by decide +kernel
theorem dX3_simulateGate_22 : decode cX3_simulateGate 22 = .ok (.aload_n 0, 1) := by decide +kernel
theorem dX3_simulateGate_23 : decode cX3_simulateGate 23 = .ok (.getfield 9, 3) := by decide +kernel
theorem dX3_simulateGate_26 : decode cX3_simulateGate 26 = .ok (.iload_n 1, 1) := by decide +kernel
theorem dX3_simulateGate_27 : decode cX3_simulateGate 27 = .ok (.iaload, 1) := by decide +kernel
theorem dX3_simulateGate_28 : decode cX3_simulateGate 28 = .ok (.lookupswitch 36 #[(0, 28), (1, 32)], 28) := by decide +kernel
theorem dX3_simulateGate_56 : decode cX3_simulateGate 56 = .ok (.iload_n 2, 1) := by decide +kernel
theorem dX3_simulateGate_57 : decode cX3_simulateGate 57 = .ok (.iload_n 3, 1) := by decide +kernel
theorem dX3_simulateGate_58 : decode cX3_simulateGate 58 = .ok (.iand, 1) := by decide +kernel
theorem dX3_simulateGate_59 : decode cX3_simulateGate 59 = .ok (.ireturn, 1) := by decide +kernel
theorem dX3_simulateGate_60 : decode cX3_simulateGate 60 = .ok (.iload_n 2, 1) := by decide +kernel
theorem dX3_simulateGate_61 : decode cX3_simulateGate 61 = .ok (.iload_n 3, 1) := by decide +kernel
theorem dX3_simulateGate_62 : decode cX3_simulateGate 62 = .ok (.ixor, 1) := by decide +kernel
theorem dX3_simulateGate_63 : decode cX3_simulateGate 63 = .ok (.ireturn, 1) := by decide +kernel
theorem dX3_simulateGate_64 : decode cX3_simulateGate 64 = .ok (.aload_n 0, 1) := by decide +kernel
theorem dX3_simulateGate_65 : decode cX3_simulateGate 65 = .ok (.aload_n 0, 1) := by decide +kernel
theorem dX3_simulateGate_66 : decode cX3_simulateGate 66 = .ok (.getfield 21, 3) := by decide +kernel
theorem dX3_simulateGate_69 : decode cX3_simulateGate 69 = .ok (.iload_n 1, 1) := by decide +kernel
theorem dX3_simulateGate_70 : decode cX3_simulateGate 70 = .ok (.iaload, 1) := by decide +kernel
theorem dX3_simulateGate_71 : decode cX3_simulateGate 71 = .ok (.invokevirtual 43, 3) := by decide +kernel
theorem dX3_simulateGate_74 : decode cX3_simulateGate 74 = .ok (.iconst 1, 1) := by decide +kernel
theorem dX3_simulateGate_75 : decode cX3_simulateGate 75 = .ok (.if_icmp .ne 7, 3) := by decide +kernel
theorem dX3_simulateGate_78 : decode cX3_simulateGate 78 = .ok (.iload_n 2, 1) := by decide +kernel
theorem dX3_simulateGate_79 : decode cX3_simulateGate 79 = .ok (.goto 4, 3) := by decide +kernel
theorem dX3_simulateGate_82 : decode cX3_simulateGate 82 = .ok (.iload_n 3, 1) := by decide +kernel
theorem dX3_simulateGate_83 : decode cX3_simulateGate 83 = .ok (.ireturn, 1) := by decide +kernel
theorem dX3_valueOf_0 : decode cX3_valueOf 0 = .ok (.aload_n 0, 1) := by decide +kernel
theorem dX3_valueOf_1 : decode cX3_valueOf 1 = .ok (.getfield 24, 3) := by decide +kernel
theorem dX3_valueOf_4 : decode cX3_valueOf 4 = .ok (.iload_n 1, 1) := by decide +kernel
theorem dX3_valueOf_5 : decode cX3_valueOf 5 = .ok (.iconst 1, 1) := by decide +kernel
theorem dX3_valueOf_6 : decode cX3_valueOf 6 = .ok (.ishr, 1) := by decide +kernel
theorem dX3_valueOf_7 : decode cX3_valueOf 7 = .ok (.iaload, 1) := by decide +kernel
theorem dX3_valueOf_8 : decode cX3_valueOf 8 = .ok (.iload_n 1, 1) := by decide +kernel
theorem dX3_valueOf_9 : decode cX3_valueOf 9 = .ok (.iconst 1, 1) := by decide +kernel
theorem dX3_valueOf_10 : decode cX3_valueOf 10 = .ok (.iand, 1) := by decide +kernel
theorem dX3_valueOf_11 : decode cX3_valueOf 11 = .ok (.ixor, 1) := by decide +kernel
theorem dX3_valueOf_12 : decode cX3_valueOf 12 = .ok (.ireturn, 1) := by decide +kernel
theorem dX4_init_0 : decode cX4_init 0 = .ok (.aload_n 0, 1) := by decide +kernel
theorem dX4_init_1 : decode cX4_init 1 = .ok (.invokespecial 3, 3) := by decide +kernel
theorem dX4_init_4 : decode cX4_init 4 = .ok (.aload_n 0, 1) := by decide +kernel
theorem dX4_init_5 : decode cX4_init 5 = .ok (.bipush 27, 2) := by decide +kernel
theorem dX4_init_7 : decode cX4_init 7 = .ok (.newarray .int, 2) := by decide +kernel
theorem dX4_init_9 : decode cX4_init 9 = .ok (.putfield 9, 3) := by decide +kernel
theorem dX4_init_12 : decode cX4_init 12 = .ok (.aload_n 0, 1) := by decide +kernel
theorem dX4_init_13 : decode cX4_init 13 = .ok (.bipush 8, 2) := by decide +kernel
theorem dX4_init_15 : decode cX4_init 15 = .ok (.newarray .int, 2) := by decide +kernel
theorem dX4_init_17 : decode cX4_init 17 = .ok (.putfield 15, 3) := by decide +kernel
theorem dX4_init_20 : decode cX4_init 20 = .ok (.aload_n 0, 1) := by decide +kernel
theorem dX4_init_21 : decode cX4_init 21 = .ok (.bipush 8, 2) := by decide +kernel
theorem dX4_init_23 : decode cX4_init 23 = .ok (.newarray .int, 2) := by decide +kernel
theorem dX4_init_25 : decode cX4_init 25 = .ok (.putfield 18, 3) := by decide +kernel
theorem dX4_init_28 : decode cX4_init 28 = .ok (.aload_n 0, 1) := by decide +kernel
theorem dX4_init_29 : decode cX4_init 29 = .ok (.aload_n 1, 1) := by decide +kernel
theorem dX4_init_30 : decode cX4_init 30 = .ok (.putfield 21, 3) := by decide +kernel
theorem dX4_init_33 : decode cX4_init 33 = .ok (.aload_n 0, 1) := by decide +kernel
theorem dX4_init_34 : decode cX4_init 34 = .ok (.aload_n 2, 1) := by decide +kernel
theorem dX4_init_35 : decode cX4_init 35 = .ok (.putfield 25, 3) := by decide +kernel
theorem dX4_init_38 : decode cX4_init 38 = .ok (.aload_n 0, 1) := by decide +kernel
theorem dX4_init_39 : decode cX4_init 39 = .ok (.aload_n 3, 1) := by decide +kernel
theorem dX4_init_40 : decode cX4_init 40 = .ok (.putfield 29, 3) := by decide +kernel
theorem dX4_init_43 : decode cX4_init 43 = .ok (.return_, 1) := by decide +kernel
theorem dX4_read_0 : decode cX4_read 0 = .ok (.aload_n 0, 1) := by decide +kernel
theorem dX4_read_1 : decode cX4_read 1 = .ok (.iconst 0, 1) := by decide +kernel
theorem dX4_read_2 : decode cX4_read 2 = .ok (.putfield 33, 3) := by decide +kernel
theorem dX4_read_5 : decode cX4_read 5 = .ok (.aload_n 0, 1) := by decide +kernel
theorem dX4_read_6 : decode cX4_read 6 = .ok (.iconst 0, 1) := by decide +kernel
theorem dX4_read_7 : decode cX4_read 7 = .ok (.putfield 37, 3) := by decide +kernel
theorem dX4_read_10 : decode cX4_read 10 = .ok (.aload_n 0, 1) := by decide +kernel
theorem dX4_read_11 : decode cX4_read 11 = .ok (.iconst 0, 1) := by decide +kernel
theorem dX4_read_12 : decode cX4_read 12 = .ok (.putfield 40, 3) := by decide +kernel
theorem dX4_read_15 : decode cX4_read 15 = .ok (.aload_n 0, 1) := by decide +kernel
theorem dX4_read_16 : decode cX4_read 16 = .ok (.bipush 40, 2) := by decide +kernel
theorem dX4_read_18 : decode cX4_read 18 = .ok (.invokevirtual 43, 3) := by decide +kernel
theorem dX4_read_21 : decode cX4_read 21 = .ok (.ifCond .ne 5, 3) := by decide +kernel
theorem dX4_read_24 : decode cX4_read 24 = .ok (.aconst_null, 1) := by decide +kernel
theorem dX4_read_25 : decode cX4_read 25 = .ok (.areturn, 1) := by decide +kernel
theorem dX4_read_26 : decode cX4_read 26 = .ok (.aload_n 0, 1) := by decide +kernel
theorem dX4_read_27 : decode cX4_read 27 = .ok (.getfield 21, 3) := by decide +kernel
theorem dX4_read_30 : decode cX4_read 30 = .ok (.aload_n 0, 1) := by decide +kernel
theorem dX4_read_31 : decode cX4_read 31 = .ok (.getfield 33, 3) := by decide +kernel
theorem dX4_read_34 : decode cX4_read 34 = .ok (.invokevirtual 47, 3) := by decide +kernel
theorem dX4_read_37 : decode cX4_read 37 = .ok (.astore_n 1, 1) := by decide +kernel
theorem dX4_read_38 : decode cX4_read 38 = .ok (.aload_n 0, 1) := by decide +kernel
theorem dX4_read_39 : decode cX4_read 39 = .ok (.aload_n 1, 1) := by decide +kernel
theorem dX4_read_40 : decode cX4_read 40 = .ok (.invokevirtual 53, 3) := by decide +kernel
theorem dX4_read_43 : decode cX4_read 43 = .ok (.ifCond .eq 12, 3) := by decide +kernel
theorem dX4_read_46 : decode cX4_read 46 = .ok (.aload_n 0, 1) := by decide +kernel
theorem dX4_read_47 : decode cX4_read 47 = .ok (.bipush 41, 2) := by decide +kernel
theorem dX4_read_49 : decode cX4_read 49 = .ok (.invokevirtual 43, 3) := by decide +kernel
theorem dX4_read_52 : decode cX4_read 52 = .ok (.ifCond .ne 5, 3) := by decide +kernel
theorem dX4_read_55 : decode cX4_read 55 = .ok (.aconst_null, 1) := by decide +kernel
theorem dX4_read_56 : decode cX4_read 56 = .ok (.areturn, 1) := by decide +kernel
theorem dX4_read_57 : decode cX4_read 57 = .ok (.aload_n 0, 1) := by decide +kernel
theorem dX4_read_58 : decode cX4_read 58 = .ok (.getfield 21, 3) := by decide +kernel
theorem dX4_read_61 : decode cX4_read 61 = .ok (.aload_n 0, 1) := by decide +kernel
theorem dX4_read_62 : decode cX4_read 62 = .ok (.getfield 33, 3) := by decide +kernel
theorem dX4_read_65 : decode cX4_read 65 = .ok (.invokevirtual 57, 3) := by decide +kernel
theorem dX4_read_68 : decode cX4_read 68 = .ok (.ifCond .ne 14, 3) := by decide +kernel
theorem dX4_read_71 : decode cX4_read 71 = .ok (.aload_n 0, 1) := by decide +kernel
theorem dX4_read_72 : decode cX4_read 72 = .ok (.aload_n 0, 1) := by decide +kernel
theorem dX4_read_73 : decode cX4_read 73 = .ok (.getfield 33, 3) := by decide +kernel
theorem dX4_read_76 : decode cX4_read 76 = .ok (.invokevirtual 61, 3) := by decide +kernel
theorem dX4_read_79 : decode cX4_read 79 = .ok (.pop, 1) := by decide +kernel
theorem dX4_read_80 : decode cX4_read 80 = .ok (.aconst_null, 1) := by decide +kernel
theorem dX4_read_81 : decode cX4_read 81 = .ok (.areturn, 1) := by decide +kernel
theorem dX4_read_82 : decode cX4_read 82 = .ok (.aload_n 1, 1) := by decide +kernel
theorem dX4_read_83 : decode cX4_read 83 = .ok (.areturn, 1) := by decide +kernel
theorem dX4_readBehind_0 : decode cX4_readBehind 0 = .ok (.aload_n 0, 1) := by decide +kernel
theorem dX4_readBehind_1 : decode cX4_readBehind 1 = .ok (.getfield 33, 3) := by decide +kernel
theorem dX4_readBehind_4 : decode cX4_readBehind 4 = .ok (.istore_n 2, 1) := by decide +kernel
theorem dX4_readBehind_5 : decode cX4_readBehind 5 = .ok (.aload_n 0, 1) := by decide +kernel
theorem dX4_readBehind_6 : decode cX4_readBehind 6 = .ok (.dup, 1) := by decide +kernel
theorem dX4_readBehind_7 : decode cX4_readBehind 7 = .ok (.getfield 33, 3) := by decide +kernel
theorem dX4_readBehind_10 : decode cX4_readBehind 10 = .ok (.iconst 1, 1) := by decide +kernel
theorem dX4_readBehind_11 : decode cX4_readBehind 11 = .ok (.iadd, 1) := by decide +kernel
theorem dX4_readBehind_12 : decode cX4_readBehind 12 = .ok (.putfield 33, 3) := by decide +kernel
theorem dX4_readBehind_15 : decode cX4_readBehind 15 = .ok (.aload_n 1, 1) := by decide +kernel
theorem dX4_readBehind_16 : decode cX4_readBehind 16 = .ok (.getstatic 64, 3) := by decide +kernel
theorem dX4_readBehind_19 : decode cX4_readBehind 19 = .ok (.if_acmp .eq 10, 3) := by decide +kernel
theorem dX4_readBehind_22 : decode cX4_readBehind 22 = .ok (.aload_n 1, 1) := by decide +kernel
theorem dX4_readBehind_23 : decode cX4_readBehind 23 = .ok (.getstatic 70, 3) := by decide +kernel
theorem dX4_readBehind_26 : decode cX4_readBehind 26 = .ok (.if_acmp .ne 5, 3) := by decide +kernel
theorem dX4_readBehind_29 : decode cX4_readBehind 29 = .ok (.iconst 1, 1) := by decide +kernel
theorem dX4_readBehind_30 : decode cX4_readBehind 30 = .ok (.ireturn, 1) := by decide +kernel
theorem dX4_readBehind_31 : decode cX4_readBehind 31 = .ok (.aload_n 1, 1) := by decide +kernel
theorem dX4_readBehind_32 : decode cX4_readBehind 32 = .ok (.getstatic 73, 3) := by decide +kernel
theorem dX4_readBehind_35 : decode cX4_readBehind 35 = .ok (.if_acmp .ne 23, 3) := by decide +kernel
theorem dX4_readBehind_38 : decode cX4_readBehind 38 = .ok (.aload_n 0, 1) := by decide +kernel
theorem dX4_readBehind_39 : decode cX4_readBehind 39 = .ok (.invokevirtual 76, 3) := by decide +kernel
theorem dX4_readBehind_42 : decode cX4_readBehind 42 = .ok (.ifCond .eq 14, 3) := by decide +kernel
theorem dX4_readBehind_45 : decode cX4_readBehind 45 = .ok (.aload_n 0, 1) := by decide +kernel
theorem dX4_readBehind_46 : decode cX4_readBehind 46 = .ok (.invokevirtual 80, 3) := by decide +kernel
theorem dX4_readBehind_49 : decode cX4_readBehind 49 = .ok (.ifCond .eq 7, 3) := by decide +kernel
theorem dX4_readBehind_52 : decode cX4_readBehind 52 = .ok (.iconst 1, 1) := by decide +kernel
theorem dX4_readBehind_53 : decode cX4_readBehind 53 = .ok (.goto 4, 3) := by decide +kernel
theorem dX4_readBehind_56 : decode cX4_readBehind 56 = .ok (.iconst 0, 1) := by decide +kernel
theorem dX4_readBehind_57 : decode cX4_readBehind 57 = .ok (.ireturn, 1) := by decide +kernel
theorem dX4_readBehind_58 : decode cX4_readBehind 58 = .ok (.aload_n 1, 1) := by decide +kernel
theorem dX4_readBehind_59 : decode cX4_readBehind 59 = .ok (.getstatic 83, 3) := by decide +kernel
theorem dX4_readBehind_62 : decode cX4_readBehind 62 = .ok (.if_acmp .ne 53, 3) := by decide +kernel
theorem dX4_readBehind_65 : decode cX4_readBehind 65 = .ok (.aload_n 0, 1) := by decide +kernel
theorem dX4_readBehind_66 : decode cX4_readBehind 66 = .ok (.getfield 33, 3) := by decide +kernel
theorem dX4_readBehind_69 : decode cX4_readBehind 69 = .ok (.istore_n 3, 1) := by decide +kernel
theorem dX4_readBehind_70 : decode cX4_readBehind 70 = .ok (.aload_n 0, 1) := by decide +kernel
theorem dX4_readBehind_71 : decode cX4_readBehind 71 = .ok (.aload_n 0, 1) := by decide +kernel
theorem dX4_readBehind_72 : decode cX4_readBehind 72 = .ok (.iconst 1, 1) := by decide +kernel
theorem dX4_readBehind_73 : decode cX4_readBehind 73 = .ok (.invokevirtual 86, 3) := by decide +kernel
theorem dX4_readBehind_76 : decode cX4_readBehind 76 = .ok (.putfield 90, 3) := by decide +kernel
theorem dX4_readBehind_79 : decode cX4_readBehind 79 = .ok (.aload_n 0, 1) := by decide +kernel
theorem dX4_readBehind_80 : decode cX4_readBehind 80 = .ok (.getfield 90, 3) := by decide +kernel
theorem dX4_readBehind_83 : decode cX4_readBehind 83 = .ok (.iconst (-1), 1) := by decide +kernel
theorem dX4_readBehind_84 : decode cX4_readBehind 84 = .ok (.if_icmp .eq 29, 3) := by decide +kernel
theorem dX4_readBehind_87 : decode cX4_readBehind 87 = .ok (.aload_n 0, 1) := by decide +kernel
theorem dX4_readBehind_88 : decode cX4_readBehind 88 = .ok (.getfield 25, 3) := by decide +kernel
theorem dX4_readBehind_91 : decode cX4_readBehind 91 = .ok (.aload_n 0, 1) := by decide +kernel
theorem dX4_readBehind_92 : decode cX4_readBehind 92 = .ok (.getfield 90, 3) := by decide +kernel
theorem dX4_readBehind_95 : decode cX4_readBehind 95 = .ok (.invokevirtual 93, 3) := by decide +kernel
theorem dX4_readBehind_98 : decode cX4_readBehind 98 = .ok (.ifCond .eq 11, 3) := by decide +kernel
theorem dX4_readBehind_101 : decode cX4_readBehind 101 = .ok (.aload_n 0, 1) := by decide +kernel
theorem dX4_readBehind_102 : decode cX4_readBehind 102 = .ok (.iload_n 3, 1) := by decide +kernel
theorem dX4_readBehind_103 : decode cX4_readBehind 103 = .ok (.invokevirtual 61, 3) := by decide +kernel
theorem dX4_readBehind_106 : decode cX4_readBehind 106 = .ok (.ifCond .eq 7, 3) := by decide +kernel
theorem dX4_readBehind_109 : decode cX4_readBehind 109 = .ok (.iconst 1, 1) := by decide +kernel
theorem dX4_readBehind_110 : decode cX4_readBehind 110 = .ok (.goto 4, 3) := by decide +kernel
theorem dX4_readBehind_113 : decode cX4_readBehind 113 = .ok (.iconst 0, 1) := by decide +kernel
theorem dX4_readBehind_114 : decode cX4_readBehind 114 = .ok (.ireturn, 1) := by decide +kernel
theorem dX4_readBehind_115 : decode cX4_readBehind 115 = .ok (.aload_n 0, 1) := by decide +kernel
theorem dX4_readBehind_116 : decode cX4_readBehind 116 = .ok (.iload_n 2, 1) := by decide +kernel
theorem dX4_readBehind_117 : decode cX4_readBehind 117 = .ok (.invokevirtual 61, 3) := by decide +kernel
theorem dX4_readBehind_120 : decode cX4_readBehind 120 = .ok (.ireturn, 1) := by decide +kernel
theorem dX4_failAt_0 : decode cX4_failAt 0 = .ok (.aload_n 0, 1) := by decide +kernel
theorem dX4_failAt_1 : decode cX4_failAt 1 = .ok (.iload_n 1, 1) := by decide +kernel
theorem dX4_failAt_2 : decode cX4_failAt 2 = .ok (.putfield 40, 3) := by decide +kernel
theorem dX4_failAt_5 : decode cX4_failAt 5 = .ok (.iconst 0, 1) := by decide +kernel
theorem dX4_failAt_6 : decode cX4_failAt 6 = .ok (.ireturn, 1) := by decide +kernel
theorem dX4_noTermAt_0 : decode cX4_noTermAt 0 = .ok (.aload_n 0, 1) := by decide +kernel
theorem dX4_noTermAt_1 : decode cX4_noTermAt 1 = .ok (.iload_n 1, 1) := by decide +kernel
theorem dX4_noTermAt_2 : decode cX4_noTermAt 2 = .ok (.putfield 40, 3) := by decide +kernel
theorem dX4_noTermAt_5 : decode cX4_noTermAt 5 = .ok (.iconst (-1), 1) := by decide +kernel
theorem dX4_noTermAt_6 : decode cX4_noTermAt 6 = .ok (.ireturn, 1) := by decide +kernel
theorem dX4_bracket_0 : decode cX4_bracket 0 = .ok (.aload_n 0, 1) := by decide +kernel
theorem dX4_bracket_1 : decode cX4_bracket 1 = .ok (.getfield 21, 3) := by decide +kernel
theorem dX4_bracket_4 : decode cX4_bracket 4 = .ok (.aload_n 0, 1) := by decide +kernel
theorem dX4_bracket_5 : decode cX4_bracket 5 = .ok (.getfield 33, 3) := by decide +kernel
theorem dX4_bracket_8 : decode cX4_bracket 8 = .ok (.iload_n 1, 1) := by decide +kernel
theorem dX4_bracket_9 : decode cX4_bracket 9 = .ok (.invokevirtual 98, 3) := by decide +kernel
theorem dX4_bracket_12 : decode cX4_bracket 12 = .ok (.ifCond .ne 12, 3) := by decide +kernel
theorem dX4_bracket_15 : decode cX4_bracket 15 = .ok (.aload_n 0, 1) := by decide +kernel
theorem dX4_bracket_16 : decode cX4_bracket 16 = .ok (.aload_n 0, 1) := by decide +kernel
theorem dX4_bracket_17 : decode cX4_bracket 17 = .ok (.getfield 33, 3) := by decide +kernel
theorem dX4_bracket_20 : decode cX4_bracket 20 = .ok (.invokevirtual 61, 3) := by decide +kernel
theorem dX4_bracket_23 : decode cX4_bracket 23 = .ok (.ireturn, 1) := by decide +kernel
theorem dX4_bracket_24 : decode cX4_bracket 24 = .ok (.aload_n 0, 1) := by decide +kernel
theorem dX4_bracket_25 : decode cX4_bracket 25 = .ok (.dup, 1) := by decide +kernel
theorem dX4_bracket_26 : decode cX4_bracket 26 = .ok (.getfield 33, 3) := by decide +kernel
theorem dX4_bracket_29 : decode cX4_bracket 29 = .ok (.iconst 1, 1) := by decide +kernel
theorem dX4_bracket_30 : decode cX4_bracket 30 = .ok (.iadd, 1) := by decide +kernel
theorem dX4_bracket_31 : decode cX4_bracket 31 = .ok (.putfield 33, 3) := by decide +kernel
theorem dX4_bracket_34 : decode cX4_bracket 34 = .ok (.iconst 1, 1) := by decide +kernel
theorem dX4_bracket_35 : decode cX4_bracket 35 = .ok (.ireturn, 1) := by decide +kernel
theorem dX4_word_0 : decode cX4_word 0 = .ok (.aload_n 0, 1) := by decide +kernel
theorem dX4_word_1 : decode cX4_word 1 = .ok (.getfield 21, 3) := by decide +kernel
theorem dX4_word_4 : decode cX4_word 4 = .ok (.aload_n 0, 1) := by decide +kernel
theorem dX4_word_5 : decode cX4_word 5 = .ok (.getfield 33, 3) := by decide +kernel
theorem dX4_word_8 : decode cX4_word 8 = .ok (.invokevirtual 47, 3) := by decide +kernel
theorem dX4_word_11 : decode cX4_word 11 = .ok (.aload_n 1, 1) := by decide +kernel
theorem dX4_word_12 : decode cX4_word 12 = .ok (.if_acmp .eq 12, 3) := by decide +kernel
theorem dX4_word_15 : decode cX4_word 15 = .ok (.aload_n 0, 1) := by decide +kernel
theorem dX4_word_16 : decode cX4_word 16 = .ok (.aload_n 0, 1) := by decide +kernel
theorem dX4_word_17 : decode cX4_word 17 = .ok (.getfield 33, 3) := by decide +kernel
theorem dX4_word_20 : decode cX4_word 20 = .ok (.invokevirtual 61, 3) := by decide +kernel
theorem dX4_word_23 : decode cX4_word 23 = .ok (.ireturn, 1) := by decide +kernel
theorem dX4_word_24 : decode cX4_word 24 = .ok (.aload_n 0, 1) := by decide +kernel
theorem dX4_word_25 : decode cX4_word 25 = .ok (.dup, 1) := by decide +kernel
theorem dX4_word_26 : decode cX4_word 26 = .ok (.getfield 33, 3) := by decide +kernel
theorem dX4_word_29 : decode cX4_word 29 = .ok (.iconst 1, 1) := by decide +kernel
theorem dX4_word_30 : decode cX4_word 30 = .ok (.iadd, 1) := by decide +kernel
theorem dX4_word_31 : decode cX4_word 31 = .ok (.putfield 33, 3) := by decide +kernel
theorem dX4_word_34 : decode cX4_word 34 = .ok (.iconst 1, 1) := by decide +kernel
theorem dX4_word_35 : decode cX4_word 35 = .ok (.ireturn, 1) := by decide +kernel
theorem dX4_readNewName_0 : decode cX4_readNewName 0 = .ok (.aload_n 0, 1) := by decide +kernel
theorem dX4_readNewName_1 : decode cX4_readNewName 1 = .ok (.aload_n 0, 1) := by decide +kernel
theorem dX4_readNewName_2 : decode cX4_readNewName 2 = .ok (.getfield 21, 3) := by decide +kernel
theorem dX4_readNewName_5 : decode cX4_readNewName 5 = .ok (.aload_n 0, 1) := by decide +kernel
theorem dX4_readNewName_6 : decode cX4_readNewName 6 = .ok (.getfield 33, 3) := by decide +kernel
theorem dX4_readNewName_9 : decode cX4_readNewName 9 = .ok (.invokevirtual 102, 3) := by decide +kernel
theorem dX4_readNewName_12 : decode cX4_readNewName 12 = .ok (.putfield 105, 3) := by decide +kernel
theorem dX4_readNewName_15 : decode cX4_readNewName 15 = .ok (.aload_n 0, 1) := by decide +kernel
theorem dX4_readNewName_16 : decode cX4_readNewName 16 = .ok (.getfield 105, 3) := by decide +kernel
theorem dX4_readNewName_19 : decode cX4_readNewName 19 = .ok (.ifCond .eq 18, 3) := by decide +kernel
theorem dX4_readNewName_22 : decode cX4_readNewName 22 = .ok (.aload_n 0, 1) := by decide +kernel
theorem dX4_readNewName_23 : decode cX4_readNewName 23 = .ok (.getfield 29, 3) := by decide +kernel
theorem dX4_readNewName_26 : decode cX4_readNewName 26 = .ok (.aload_n 0, 1) := by decide +kernel
theorem dX4_readNewName_27 : decode cX4_readNewName 27 = .ok (.getfield 105, 3) := by decide +kernel
theorem dX4_readNewName_30 : decode cX4_readNewName 30 = .ok (.invokevirtual 108, 3) := by decide +kernel
theorem dX4_readNewName_33 : decode cX4_readNewName 33 = .ok (.iconst (-1), 1) := by decide +kernel
theorem dX4_readNewName_34 : decode cX4_readNewName 34 = .ok (.if_icmp .eq 12, 3) := by decide +kernel
theorem dX4_readNewName_37 : decode cX4_readNewName 37 = .ok (.aload_n 0, 1) := by decide +kernel
theorem dX4_readNewName_38 : decode cX4_readNewName 38 = .ok (.aload_n 0, 1) := by decide +kernel
theorem dX4_readNewName_39 : decode cX4_readNewName 39 = .ok (.getfield 33, 3) := by decide +kernel
theorem dX4_readNewName_42 : decode cX4_readNewName 42 = .ok (.invokevirtual 61, 3) := by decide +kernel
theorem dX4_readNewName_45 : decode cX4_readNewName 45 = .ok (.ireturn, 1) := by decide +kernel
theorem dX4_readNewName_46 : decode cX4_readNewName 46 = .ok (.aload_n 0, 1) := by decide +kernel
theorem dX4_readNewName_47 : decode cX4_readNewName 47 = .ok (.dup, 1) := by decide +kernel
theorem dX4_readNewName_48 : decode cX4_readNewName 48 = .ok (.getfield 33, 3) := by decide +kernel
theorem dX4_readNewName_51 : decode cX4_readNewName 51 = .ok (.iconst 1, 1) := by decide +kernel
theorem dX4_readNewName_52 : decode cX4_readNewName 52 = .ok (.iadd, 1) := by decide +kernel
theorem dX4_readNewName_53 : decode cX4_readNewName 53 = .ok (.putfield 33, 3) := by decide +kernel
theorem dX4_readNewName_56 : decode cX4_readNewName 56 = .ok (.iconst 1, 1) := by decide +kernel
theorem dX4_readNewName_57 : decode cX4_readNewName 57 = .ok (.ireturn, 1) := by decide +kernel
theorem dX4_readSort_0 : decode cX4_readSort 0 = .ok (.aload_n 0, 1) := by decide +kernel
theorem dX4_readSort_1 : decode cX4_readSort 1 = .ok (.getfield 21, 3) := by decide +kernel
theorem dX4_readSort_4 : decode cX4_readSort 4 = .ok (.aload_n 0, 1) := by decide +kernel
theorem dX4_readSort_5 : decode cX4_readSort 5 = .ok (.getfield 33, 3) := by decide +kernel
theorem dX4_readSort_8 : decode cX4_readSort 8 = .ok (.invokevirtual 47, 3) := by decide +kernel
theorem dX4_readSort_11 : decode cX4_readSort 11 = .ok (.getstatic 113, 3) := by decide +kernel
theorem dX4_readSort_14 : decode cX4_readSort 14 = .ok (.if_acmp .ne 20, 3) := by decide +kernel
theorem dX4_readSort_17 : decode cX4_readSort 17 = .ok (.aload_n 0, 1) := by decide +kernel
theorem dX4_readSort_18 : decode cX4_readSort 18 = .ok (.iconst 0, 1) := by decide +kernel
theorem dX4_readSort_19 : decode cX4_readSort 19 = .ok (.putfield 116, 3) := by decide +kernel
theorem dX4_readSort_22 : decode cX4_readSort 22 = .ok (.aload_n 0, 1) := by decide +kernel
theorem dX4_readSort_23 : decode cX4_readSort 23 = .ok (.dup, 1) := by decide +kernel
theorem dX4_readSort_24 : decode cX4_readSort 24 = .ok (.getfield 33, 3) := by decide +kernel
theorem dX4_readSort_27 : decode cX4_readSort 27 = .ok (.iconst 1, 1) := by decide +kernel
theorem dX4_readSort_28 : decode cX4_readSort 28 = .ok (.iadd, 1) := by decide +kernel
theorem dX4_readSort_29 : decode cX4_readSort 29 = .ok (.putfield 33, 3) := by decide +kernel
theorem dX4_readSort_32 : decode cX4_readSort 32 = .ok (.iconst 1, 1) := by decide +kernel
theorem dX4_readSort_33 : decode cX4_readSort 33 = .ok (.ireturn, 1) := by decide +kernel
theorem dX4_readSort_34 : decode cX4_readSort 34 = .ok (.aload_n 0, 1) := by decide +kernel
theorem dX4_readSort_35 : decode cX4_readSort 35 = .ok (.bipush 40, 2) := by decide +kernel
theorem dX4_readSort_37 : decode cX4_readSort 37 = .ok (.invokevirtual 43, 3) := by decide +kernel
theorem dX4_readSort_40 : decode cX4_readSort 40 = .ok (.ifCond .ne 5, 3) := by decide +kernel
theorem dX4_readSort_43 : decode cX4_readSort 43 = .ok (.iconst 0, 1) := by decide +kernel
theorem dX4_readSort_44 : decode cX4_readSort 44 = .ok (.ireturn, 1) := by decide +kernel
theorem dX4_readSort_45 : decode cX4_readSort 45 = .ok (.aload_n 0, 1) := by decide +kernel
theorem dX4_readSort_46 : decode cX4_readSort 46 = .ok (.getfield 21, 3) := by decide +kernel
theorem dX4_readSort_49 : decode cX4_readSort 49 = .ok (.aload_n 0, 1) := by decide +kernel
theorem dX4_readSort_50 : decode cX4_readSort 50 = .ok (.getfield 33, 3) := by decide +kernel
theorem dX4_readSort_53 : decode cX4_readSort 53 = .ok (.invokevirtual 47, 3) := by decide +kernel
theorem dX4_readSort_56 : decode cX4_readSort 56 = .ok (.getstatic 119, 3) := by decide +kernel
theorem dX4_readSort_59 : decode cX4_readSort 59 = .ok (.if_acmp .eq 9, 3) := by decide +kernel
theorem dX4_readSort_62 : decode cX4_readSort 62 = .ok (.aload_n 0, 1) := by decide +kernel
theorem dX4_readSort_63 : decode cX4_readSort 63 = .ok (.iconst 4, 1) := by decide +kernel
theorem dX4_readSort_64 : decode cX4_readSort 64 = .ok (.invokevirtual 122, 3) := by decide +kernel
theorem dX4_readSort_67 : decode cX4_readSort 67 = .ok (.ireturn, 1) := by decide +kernel
theorem dX4_readSort_68 : decode cX4_readSort 68 = .ok (.aload_n 0, 1) := by decide +kernel
theorem dX4_readSort_69 : decode cX4_readSort 69 = .ok (.dup, 1) := by decide +kernel
theorem dX4_readSort_70 : decode cX4_readSort 70 = .ok (.getfield 33, 3) := by decide +kernel
theorem dX4_readSort_73 : decode cX4_readSort 73 = .ok (.iconst 1, 1) := by decide +kernel
theorem dX4_readSort_74 : decode cX4_readSort 74 = .ok (.iadd, 1) := by decide +kernel
theorem dX4_readSort_75 : decode cX4_readSort 75 = .ok (.putfield 33, 3) := by decide +kernel
theorem dX4_readSort_78 : decode cX4_readSort 78 = .ok (.aload_n 0, 1) := by decide +kernel
theorem dX4_readSort_79 : decode cX4_readSort 79 = .ok (.bipush 40, 2) := by decide +kernel
theorem dX4_readSort_81 : decode cX4_readSort 81 = .ok (.invokevirtual 43, 3) := by decide +kernel
theorem dX4_readSort_84 : decode cX4_readSort 84 = .ok (.ifCond .eq 28, 3) := by decide +kernel
theorem dX4_readSort_87 : decode cX4_readSort 87 = .ok (.aload_n 0, 1) := by decide +kernel
theorem dX4_readSort_88 : decode cX4_readSort 88 = .ok (.iconst 1, 1) := by decide +kernel
theorem dX4_readSort_89 : decode cX4_readSort 89 = .ok (.invokevirtual 122, 3) := by decide +kernel
theorem dX4_readSort_92 : decode cX4_readSort 92 = .ok (.ifCond .eq 20, 3) := by decide +kernel
theorem dX4_readSort_95 : decode cX4_readSort 95 = .ok (.aload_n 0, 1) := by decide +kernel
theorem dX4_readSort_96 : decode cX4_readSort 96 = .ok (.bipush 40, 2) := by decide +kernel
theorem dX4_readSort_98 : decode cX4_readSort 98 = .ok (.invokevirtual 43, 3) := by decide +kernel
theorem dX4_readSort_101 : decode cX4_readSort 101 = .ok (.ifCond .eq 11, 3) := by decide +kernel
theorem dX4_readSort_104 : decode cX4_readSort 104 = .ok (.aload_n 0, 1) := by decide +kernel
theorem dX4_readSort_105 : decode cX4_readSort 105 = .ok (.iconst 4, 1) := by decide +kernel
theorem dX4_readSort_106 : decode cX4_readSort 106 = .ok (.invokevirtual 122, 3) := by decide +kernel
theorem dX4_readSort_109 : decode cX4_readSort 109 = .ok (.ifCond .ne 5, 3) := by decide +kernel
theorem dX4_readSort_112 : decode cX4_readSort 112 = .ok (.iconst 0, 1) := by decide +kernel
theorem dX4_readSort_113 : decode cX4_readSort 113 = .ok (.ireturn, 1) := by decide +kernel
theorem dX4_readSort_114 : decode cX4_readSort 114 = .ok (.aload_n 0, 1) := by decide +kernel
theorem dX4_readSort_115 : decode cX4_readSort 115 = .ok (.dup, 1) := by decide +kernel
theorem dX4_readSort_116 : decode cX4_readSort 116 = .ok (.getfield 116, 3) := by decide +kernel
theorem dX4_readSort_119 : decode cX4_readSort 119 = .ok (.iconst 4, 1) := by decide +kernel
theorem dX4_readSort_120 : decode cX4_readSort 120 = .ok (.iadd, 1) := by decide +kernel
theorem dX4_readSort_121 : decode cX4_readSort 121 = .ok (.putfield 116, 3) := by decide +kernel
theorem dX4_readSort_124 : decode cX4_readSort 124 = .ok (.aload_n 0, 1) := by decide +kernel
theorem dX4_readSort_125 : decode cX4_readSort 125 = .ok (.bipush 41, 2) := by decide +kernel
theorem dX4_readSort_127 : decode cX4_readSort 127 = .ok (.invokevirtual 43, 3) := by decide +kernel
theorem dX4_readSort_130 : decode cX4_readSort 130 = .ok (.ireturn, 1) := by decide +kernel
theorem dX4_readWidth_0 : decode cX4_readWidth 0 = .ok (.aload_n 0, 1) := by decide +kernel
theorem dX4_readWidth_1 : decode cX4_readWidth 1 = .ok (.getstatic 125, 3) := by decide +kernel
theorem dX4_readWidth_4 : decode cX4_readWidth 4 = .ok (.invokevirtual 128, 3) := by decide +kernel
theorem dX4_readWidth_7 : decode cX4_readWidth 7 = .ok (.ifCond .eq 13, 3) := by decide +kernel
theorem dX4_readWidth_10 : decode cX4_readWidth 10 = .ok (.aload_n 0, 1) := by decide +kernel
theorem dX4_readWidth_11 : decode cX4_readWidth 11 = .ok (.getstatic 131, 3) := by decide +kernel
theorem dX4_readWidth_14 : decode cX4_readWidth 14 = .ok (.invokevirtual 128, 3) := by decide +kernel
theorem dX4_readWidth_17 : decode cX4_readWidth 17 = .ok (.ifCond .ne 5, 3) := by decide +kernel
theorem dX4_readWidth_20 : decode cX4_readWidth 20 = .ok (.iconst 0, 1) := by decide +kernel
theorem dX4_readWidth_21 : decode cX4_readWidth 21 = .ok (.ireturn, 1) := by decide +kernel
theorem dX4_readWidth_22 : decode cX4_readWidth 22 = .ok (.aload_n 0, 1) := by decide +kernel
theorem dX4_readWidth_23 : decode cX4_readWidth 23 = .ok (.aload_n 0, 1) := by decide +kernel
theorem dX4_readWidth_24 : decode cX4_readWidth 24 = .ok (.getfield 21, 3) := by decide +kernel
theorem dX4_readWidth_27 : decode cX4_readWidth 27 = .ok (.aload_n 0, 1) := by decide +kernel
theorem dX4_readWidth_28 : decode cX4_readWidth 28 = .ok (.getfield 33, 3) := by decide +kernel
theorem dX4_readWidth_31 : decode cX4_readWidth 31 = .ok (.invokevirtual 134, 3) := by decide +kernel
theorem dX4_readWidth_34 : decode cX4_readWidth 34 = .ok (.putfield 116, 3) := by decide +kernel
theorem dX4_readWidth_37 : decode cX4_readWidth 37 = .ok (.aload_n 0, 1) := by decide +kernel
theorem dX4_readWidth_38 : decode cX4_readWidth 38 = .ok (.getfield 116, 3) := by decide +kernel
theorem dX4_readWidth_41 : decode cX4_readWidth 41 = .ok (.iconst 1, 1) := by decide +kernel
theorem dX4_readWidth_42 : decode cX4_readWidth 42 = .ok (.if_icmp .lt 11, 3) := by decide +kernel
theorem dX4_readWidth_45 : decode cX4_readWidth 45 = .ok (.aload_n 0, 1) := by decide +kernel
theorem dX4_readWidth_46 : decode cX4_readWidth 46 = .ok (.getfield 116, 3) := by decide +kernel
theorem dX4_readWidth_49 : decode cX4_readWidth 49 = .ok (.iload_n 1, 1) := by decide +kernel
theorem dX4_readWidth_50 : decode cX4_readWidth 50 = .ok (.if_icmp .le 12, 3) := by decide +kernel
theorem dX4_readWidth_53 : decode cX4_readWidth 53 = .ok (.aload_n 0, 1) := by decide +kernel
theorem dX4_readWidth_54 : decode cX4_readWidth 54 = .ok (.aload_n 0, 1) := by decide +kernel
theorem dX4_readWidth_55 : decode cX4_readWidth 55 = .ok (.getfield 33, 3) := by decide +kernel
theorem dX4_readWidth_58 : decode cX4_readWidth 58 = .ok (.invokevirtual 61, 3) := by decide +kernel
theorem dX4_readWidth_61 : decode cX4_readWidth 61 = .ok (.ireturn, 1) := by decide +kernel
theorem dX4_readWidth_62 : decode cX4_readWidth 62 = .ok (.aload_n 0, 1) := by decide +kernel
theorem dX4_readWidth_63 : decode cX4_readWidth 63 = .ok (.dup, 1) := by decide +kernel
theorem dX4_readWidth_64 : decode cX4_readWidth 64 = .ok (.getfield 33, 3) := by decide +kernel
theorem dX4_readWidth_67 : decode cX4_readWidth 67 = .ok (.iconst 1, 1) := by decide +kernel
theorem dX4_readWidth_68 : decode cX4_readWidth 68 = .ok (.iadd, 1) := by decide +kernel
theorem dX4_readWidth_69 : decode cX4_readWidth 69 = .ok (.putfield 33, 3) := by decide +kernel
theorem dX4_readWidth_72 : decode cX4_readWidth 72 = .ok (.aload_n 0, 1) := by decide +kernel
theorem dX4_readWidth_73 : decode cX4_readWidth 73 = .ok (.bipush 41, 2) := by decide +kernel
theorem dX4_readWidth_75 : decode cX4_readWidth 75 = .ok (.invokevirtual 43, 3) := by decide +kernel
theorem dX4_readWidth_78 : decode cX4_readWidth 78 = .ok (.ireturn, 1) := by decide +kernel
theorem dX4_readTerm_0 : decode cX4_readTerm 0 = .ok (.iload_n 1, 1) := by decide +kernel
theorem dX4_readTerm_1 : decode cX4_readTerm 1 = .ok (.bipush 8, 2) := by decide +kernel
theorem dX4_readTerm_3 : decode cX4_readTerm 3 = .ok (.if_icmp .le 12, 3) := by decide +kernel
theorem dX4_readTerm_6 : decode cX4_readTerm 6 = .ok (.aload_n 0, 1) := by decide +kernel
theorem dX4_readTerm_7 : decode cX4_readTerm 7 = .ok (.aload_n 0, 1) := by decide +kernel
theorem dX4_readTerm_8 : decode cX4_readTerm 8 = .ok (.getfield 33, 3) := by decide +kernel
theorem dX4_readTerm_11 : decode cX4_readTerm 11 = .ok (.invokevirtual 137, 3) := by decide +kernel
theorem dX4_readTerm_14 : decode cX4_readTerm 14 = .ok (.ireturn, 1) := by decide +kernel
theorem dX4_readTerm_15 : decode cX4_readTerm 15 = .ok (.aload_n 0, 1) := by decide +kernel
theorem dX4_readTerm_16 : decode cX4_readTerm 16 = .ok (.getfield 21, 3) := by decide +kernel
theorem dX4_readTerm_19 : decode cX4_readTerm 19 = .ok (.aload_n 0, 1) := by decide +kernel
theorem dX4_readTerm_20 : decode cX4_readTerm 20 = .ok (.getfield 33, 3) := by decide +kernel
theorem dX4_readTerm_23 : decode cX4_readTerm 23 = .ok (.bipush 40, 2) := by decide +kernel
theorem dX4_readTerm_25 : decode cX4_readTerm 25 = .ok (.invokevirtual 98, 3) := by decide +kernel
theorem dX4_readTerm_28 : decode cX4_readTerm 28 = .ok (.ifCond .ne 8, 3) := by decide +kernel
theorem dX4_readTerm_31 : decode cX4_readTerm 31 = .ok (.aload_n 0, 1) := by decide +kernel
theorem dX4_readTerm_32 : decode cX4_readTerm 32 = .ok (.invokevirtual 140, 3) := by decide +kernel
theorem dX4_readTerm_35 : decode cX4_readTerm 35 = .ok (.ireturn, 1) := by decide +kernel
theorem dX4_readTerm_36 : decode cX4_readTerm 36 = .ok (.aload_n 0, 1) := by decide +kernel
theorem dX4_readTerm_37 : decode cX4_readTerm 37 = .ok (.dup, 1) := by decide +kernel
theorem dX4_readTerm_38 : decode cX4_readTerm 38 = .ok (.getfield 33, 3) := by decide +kernel
theorem dX4_readTerm_41 : decode cX4_readTerm 41 = .ok (.iconst 1, 1) := by decide +kernel
theorem dX4_readTerm_42 : decode cX4_readTerm 42 = .ok (.iadd, 1) := by decide +kernel
theorem dX4_readTerm_43 : decode cX4_readTerm 43 = .ok (.putfield 33, 3) := by decide +kernel
theorem dX4_readTerm_46 : decode cX4_readTerm 46 = .ok (.aload_n 0, 1) := by decide +kernel
theorem dX4_readTerm_47 : decode cX4_readTerm 47 = .ok (.getfield 21, 3) := by decide +kernel
theorem dX4_readTerm_50 : decode cX4_readTerm 50 = .ok (.aload_n 0, 1) := by decide +kernel
theorem dX4_readTerm_51 : decode cX4_readTerm 51 = .ok (.getfield 33, 3) := by decide +kernel
theorem dX4_readTerm_54 : decode cX4_readTerm 54 = .ok (.bipush 40, 2) := by decide +kernel
theorem dX4_readTerm_56 : decode cX4_readTerm 56 = .ok (.invokevirtual 98, 3) := by decide +kernel
theorem dX4_readTerm_59 : decode cX4_readTerm 59 = .ok (.ifCond .eq 9, 3) := by decide +kernel
theorem dX4_readTerm_62 : decode cX4_readTerm 62 = .ok (.aload_n 0, 1) := by decide +kernel
theorem dX4_readTerm_63 : decode cX4_readTerm 63 = .ok (.iload_n 1, 1) := by decide +kernel
theorem dX4_readTerm_64 : decode cX4_readTerm 64 = .ok (.invokevirtual 144, 3) := by decide +kernel
theorem dX4_readTerm_67 : decode cX4_readTerm 67 = .ok (.ireturn, 1) := by decide +kernel
theorem dX4_readTerm_68 : decode cX4_readTerm 68 = .ok (.aload_n 0, 1) := by decide +kernel
theorem dX4_readTerm_69 : decode cX4_readTerm 69 = .ok (.getfield 21, 3) := by decide +kernel
theorem dX4_readTerm_72 : decode cX4_readTerm 72 = .ok (.aload_n 0, 1) := by decide +kernel
theorem dX4_readTerm_73 : decode cX4_readTerm 73 = .ok (.getfield 33, 3) := by decide +kernel
theorem dX4_readTerm_76 : decode cX4_readTerm 76 = .ok (.invokevirtual 47, 3) := by decide +kernel
theorem dX4_readTerm_79 : decode cX4_readTerm 79 = .ok (.astore_n 2, 1) := by decide +kernel
theorem dX4_readTerm_80 : decode cX4_readTerm 80 = .ok (.aload_n 2, 1) := by decide +kernel
theorem dX4_readTerm_81 : decode cX4_readTerm 81 = .ok (.getstatic 147, 3) := by decide +kernel
theorem dX4_readTerm_84 : decode cX4_readTerm 84 = .ok (.if_acmp .ne 9, 3) := by decide +kernel
theorem dX4_readTerm_87 : decode cX4_readTerm 87 = .ok (.aload_n 0, 1) := by decide +kernel
theorem dX4_readTerm_88 : decode cX4_readTerm 88 = .ok (.iload_n 1, 1) := by decide +kernel
theorem dX4_readTerm_89 : decode cX4_readTerm 89 = .ok (.invokevirtual 150, 3) := by decide +kernel
theorem dX4_readTerm_92 : decode cX4_readTerm 92 = .ok (.ireturn, 1) := by decide +kernel
theorem dX4_readTerm_93 : decode cX4_readTerm 93 = .ok (.aload_n 2, 1) := by decide +kernel
theorem dX4_readTerm_94 : decode cX4_readTerm 94 = .ok (.ifnull 17, 3) := by decide +kernel
theorem dX4_readTerm_97 : decode cX4_readTerm 97 = .ok (.aload_n 2, 1) := by decide +kernel
theorem dX4_readTerm_98 : decode cX4_readTerm 98 = .ok (.getfield 153, 3) := by decide +kernel
theorem dX4_readTerm_101 : decode cX4_readTerm 101 = .ok (.ifCond .eq 10, 3) := by decide +kernel
theorem dX4_readTerm_104 : decode cX4_readTerm 104 = .ok (.aload_n 2, 1) := by decide +kernel
theorem dX4_readTerm_105 : decode cX4_readTerm 105 = .ok (.invokevirtual 155, 3) := by decide +kernel
theorem dX4_readTerm_108 : decode cX4_readTerm 108 = .ok (.ifCond .eq 12, 3) := by decide +kernel
theorem dX4_readTerm_111 : decode cX4_readTerm 111 = .ok (.aload_n 0, 1) := by decide +kernel
theorem dX4_readTerm_112 : decode cX4_readTerm 112 = .ok (.aload_n 0, 1) := by decide +kernel
theorem dX4_readTerm_113 : decode cX4_readTerm 113 = .ok (.getfield 33, 3) := by decide +kernel
theorem dX4_readTerm_116 : decode cX4_readTerm 116 = .ok (.invokevirtual 137, 3) := by decide +kernel
theorem dX4_readTerm_119 : decode cX4_readTerm 119 = .ok (.ireturn, 1) := by decide +kernel
theorem dX4_readTerm_120 : decode cX4_readTerm 120 = .ok (.aload_n 0, 1) := by decide +kernel
theorem dX4_readTerm_121 : decode cX4_readTerm 121 = .ok (.dup, 1) := by decide +kernel
theorem dX4_readTerm_122 : decode cX4_readTerm 122 = .ok (.getfield 33, 3) := by decide +kernel
theorem dX4_readTerm_125 : decode cX4_readTerm 125 = .ok (.iconst 1, 1) := by decide +kernel
theorem dX4_readTerm_126 : decode cX4_readTerm 126 = .ok (.iadd, 1) := by decide +kernel
theorem dX4_readTerm_127 : decode cX4_readTerm 127 = .ok (.putfield 33, 3) := by decide +kernel
theorem dX4_readTerm_130 : decode cX4_readTerm 130 = .ok (.aload_n 0, 1) := by decide +kernel
theorem dX4_readTerm_131 : decode cX4_readTerm 131 = .ok (.aload_n 2, 1) := by decide +kernel
theorem dX4_readTerm_132 : decode cX4_readTerm 132 = .ok (.iconst 0, 1) := by decide +kernel
theorem dX4_readTerm_133 : decode cX4_readTerm 133 = .ok (.iconst 0, 1) := by decide +kernel
theorem dX4_readTerm_134 : decode cX4_readTerm 134 = .ok (.iload_n 1, 1) := by decide +kernel
theorem dX4_readTerm_135 : decode cX4_readTerm 135 = .ok (.invokevirtual 158, 3) := by decide +kernel
theorem dX4_readTerm_138 : decode cX4_readTerm 138 = .ok (.ireturn, 1) := by decide +kernel
theorem dX4_readAtom_0 : decode cX4_readAtom 0 = .ok (.aload_n 0, 1) := by decide +kernel
theorem dX4_readAtom_1 : decode cX4_readAtom 1 = .ok (.getfield 33, 3) := by decide +kernel
theorem dX4_readAtom_4 : decode cX4_readAtom 4 = .ok (.istore_n 1, 1) := by decide +kernel
theorem dX4_readAtom_5 : decode cX4_readAtom 5 = .ok (.aload_n 0, 1) := by decide +kernel
theorem dX4_readAtom_6 : decode cX4_readAtom 6 = .ok (.dup, 1) := by decide +kernel
theorem dX4_readAtom_7 : decode cX4_readAtom 7 = .ok (.getfield 33, 3) := by decide +kernel
theorem dX4_readAtom_10 : decode cX4_readAtom 10 = .ok (.iconst 1, 1) := by decide +kernel
theorem dX4_readAtom_11 : decode cX4_readAtom 11 = .ok (.iadd, 1) := by decide +kernel
theorem dX4_readAtom_12 : decode cX4_readAtom 12 = .ok (.putfield 33, 3) := by decide +kernel
theorem dX4_readAtom_15 : decode cX4_readAtom 15 = .ok (.aload_n 0, 1) := by decide +kernel
theorem dX4_readAtom_16 : decode cX4_readAtom 16 = .ok (.getfield 21, 3) := by decide +kernel
theorem dX4_readAtom_19 : decode cX4_readAtom 19 = .ok (.iload_n 1, 1) := by decide +kernel
theorem dX4_readAtom_20 : decode cX4_readAtom 20 = .ok (.invokevirtual 47, 3) := by decide +kernel
theorem dX4_readAtom_23 : decode cX4_readAtom 23 = .ok (.astore_n 2, 1) := by decide +kernel
theorem dX4_readAtom_24 : decode cX4_readAtom 24 = .ok (.aload_n 2, 1) := by decide +kernel
theorem dX4_readAtom_25 : decode cX4_readAtom 25 = .ok (.getstatic 162, 3) := by decide +kernel
theorem dX4_readAtom_28 : decode cX4_readAtom 28 = .ok (.if_acmp .eq 10, 3) := by decide +kernel
theorem dX4_readAtom_31 : decode cX4_readAtom 31 = .ok (.aload_n 2, 1) := by decide +kernel
theorem dX4_readAtom_32 : decode cX4_readAtom 32 = .ok (.getstatic 165, 3) := by decide +kernel
theorem dX4_readAtom_35 : decode cX4_readAtom 35 = .ok (.if_acmp .ne 22, 3) := by decide +kernel
theorem dX4_readAtom_38 : decode cX4_readAtom 38 = .ok (.aload_n 0, 1) := by decide +kernel
theorem dX4_readAtom_39 : decode cX4_readAtom 39 = .ok (.getfield 25, 3) := by decide +kernel
theorem dX4_readAtom_42 : decode cX4_readAtom 42 = .ok (.aload_n 2, 1) := by decide +kernel
theorem dX4_readAtom_43 : decode cX4_readAtom 43 = .ok (.iconst 0, 1) := by decide +kernel
theorem dX4_readAtom_44 : decode cX4_readAtom 44 = .ok (.iconst 0, 1) := by decide +kernel
theorem dX4_readAtom_45 : decode cX4_readAtom 45 = .ok (.iconst 0, 1) := by decide +kernel
theorem dX4_readAtom_46 : decode cX4_readAtom 46 = .ok (.invokevirtual 168, 3) := by decide +kernel
theorem dX4_readAtom_49 : decode cX4_readAtom 49 = .ok (.aload_n 0, 1) := by decide +kernel
theorem dX4_readAtom_50 : decode cX4_readAtom 50 = .ok (.getfield 25, 3) := by decide +kernel
theorem dX4_readAtom_53 : decode cX4_readAtom 53 = .ok (.invokevirtual 172, 3) := by decide +kernel
theorem dX4_readAtom_56 : decode cX4_readAtom 56 = .ok (.ireturn, 1) := by decide +kernel
theorem dX4_readAtom_57 : decode cX4_readAtom 57 = .ok (.aload_n 0, 1) := by decide +kernel
theorem dX4_readAtom_58 : decode cX4_readAtom 58 = .ok (.getfield 21, 3) := by decide +kernel
theorem dX4_readAtom_61 : decode cX4_readAtom 61 = .ok (.iload_n 1, 1) := by decide +kernel
theorem dX4_readAtom_62 : decode cX4_readAtom 62 = .ok (.invokevirtual 175, 3) := by decide +kernel
theorem dX4_readAtom_65 : decode cX4_readAtom 65 = .ok (.istore_n 3, 1) := by decide +kernel
theorem dX4_readAtom_66 : decode cX4_readAtom 66 = .ok (.iload_n 3, 1) := by decide +kernel
theorem dX4_readAtom_67 : decode cX4_readAtom 67 = .ok (.ifCond .le 32, 3) := by decide +kernel
theorem dX4_readAtom_70 : decode cX4_readAtom 70 = .ok (.aload_n 0, 1) := by decide +kernel
theorem dX4_readAtom_71 : decode cX4_readAtom 71 = .ok (.getfield 25, 3) := by decide +kernel
theorem dX4_readAtom_74 : decode cX4_readAtom 74 = .ok (.getstatic 131, 3) := by decide +kernel
theorem dX4_readAtom_77 : decode cX4_readAtom 77 = .ok (.aload_n 0, 1) := by decide +kernel
theorem dX4_readAtom_78 : decode cX4_readAtom 78 = .ok (.getfield 21, 3) := by decide +kernel
theorem dX4_readAtom_81 : decode cX4_readAtom 81 = .ok (.iload_n 1, 1) := by decide +kernel
theorem dX4_readAtom_82 : decode cX4_readAtom 82 = .ok (.iload_n 3, 1) := by decide +kernel
theorem dX4_readAtom_83 : decode cX4_readAtom 83 = .ok (.invokevirtual 178, 3) := by decide +kernel
theorem dX4_readAtom_86 : decode cX4_readAtom 86 = .ok (.iconst 0, 1) := by decide +kernel
theorem dX4_readAtom_87 : decode cX4_readAtom 87 = .ok (.iload_n 3, 1) := by decide +kernel
theorem dX4_readAtom_88 : decode cX4_readAtom 88 = .ok (.invokevirtual 168, 3) := by decide +kernel
theorem dX4_readAtom_91 : decode cX4_readAtom 91 = .ok (.aload_n 0, 1) := by decide +kernel
theorem dX4_readAtom_92 : decode cX4_readAtom 92 = .ok (.getfield 25, 3) := by decide +kernel
theorem dX4_readAtom_95 : decode cX4_readAtom 95 = .ok (.invokevirtual 172, 3) := by decide +kernel
theorem dX4_readAtom_98 : decode cX4_readAtom 98 = .ok (.ireturn, 1) := by decide +kernel
theorem dX4_readAtom_99 : decode cX4_readAtom 99 = .ok (.aload_n 0, 1) := by decide +kernel
theorem dX4_readAtom_100 : decode cX4_readAtom 100 = .ok (.getfield 21, 3) := by decide +kernel
theorem dX4_readAtom_103 : decode cX4_readAtom 103 = .ok (.iload_n 1, 1) := by decide +kernel
theorem dX4_readAtom_104 : decode cX4_readAtom 104 = .ok (.invokevirtual 102, 3) := by decide +kernel
theorem dX4_readAtom_107 : decode cX4_readAtom 107 = .ok (.istore 4, 2) := by decide +kernel
theorem dX4_readAtom_109 : decode cX4_readAtom 109 = .ok (.iload 4, 2) := by decide +kernel
theorem dX4_readAtom_111 : decode cX4_readAtom 111 = .ok (.ifCond .ne 7, 3) := by decide +kernel
theorem dX4_readAtom_114 : decode cX4_readAtom 114 = .ok (.iconst (-1), 1) := by decide +kernel
theorem dX4_readAtom_115 : decode cX4_readAtom 115 = .ok (.goto 9, 3) := by decide +kernel
theorem dX4_readAtom_118 : decode cX4_readAtom 118 = .ok (.aload_n 0, 1) := by decide +kernel
theorem dX4_readAtom_119 : decode cX4_readAtom 119 = .ok (.iload 4, 2) := by decide +kernel
theorem dX4_readAtom_121 : decode cX4_readAtom 121 = .ok (.invokevirtual 182, 3) := by decide +kernel
theorem dX4_readAtom_124 : decode cX4_readAtom 124 = .ok (.istore 5, 2) := by decide +kernel
theorem dX4_readAtom_126 : decode cX4_readAtom 126 = .ok (.iload 5, 2) := by decide +kernel
theorem dX4_readAtom_128 : decode cX4_readAtom 128 = .ok (.iconst (-1), 1) := by decide +kernel
theorem dX4_readAtom_129 : decode cX4_readAtom 129 = .ok (.if_icmp .ne 11, 3) := by decide +kernel
