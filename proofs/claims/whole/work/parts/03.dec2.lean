theorem dX4_readAtom_132 : decode cX4_readAtom 132 = .ok (.aload_n 0, 1) := by decide +kernel
theorem dX4_readAtom_133 : decode cX4_readAtom 133 = .ok (.iload_n 1, 1) := by decide +kernel
theorem dX4_readAtom_134 : decode cX4_readAtom 134 = .ok (.invokevirtual 137, 3) := by decide +kernel
theorem dX4_readAtom_137 : decode cX4_readAtom 137 = .ok (.goto 5, 3) := by decide +kernel
theorem dX4_readAtom_140 : decode cX4_readAtom 140 = .ok (.iload 5, 2) := by decide +kernel
theorem dX4_readAtom_142 : decode cX4_readAtom 142 = .ok (.ireturn, 1) := by decide +kernel
theorem dX4_meaningOf_0 : decode cX4_meaningOf 0 = .ok (.aload_n 0, 1) := by decide +kernel
theorem dX4_meaningOf_1 : decode cX4_meaningOf 1 = .ok (.getfield 37, 3) := by decide +kernel
theorem dX4_meaningOf_4 : decode cX4_meaningOf 4 = .ok (.iconst 1, 1) := by decide +kernel
theorem dX4_meaningOf_5 : decode cX4_meaningOf 5 = .ok (.isub, 1) := by decide +kernel
theorem dX4_meaningOf_6 : decode cX4_meaningOf 6 = .ok (.istore_n 2, 1) := by decide +kernel
theorem dX4_meaningOf_7 : decode cX4_meaningOf 7 = .ok (.iload_n 2, 1) := by decide +kernel
theorem dX4_meaningOf_8 : decode cX4_meaningOf 8 = .ok (.ifCond .lt 26, 3) := by decide +kernel
theorem dX4_meaningOf_11 : decode cX4_meaningOf 11 = .ok (.aload_n 0, 1) := by decide +kernel
theorem dX4_meaningOf_12 : decode cX4_meaningOf 12 = .ok (.getfield 15, 3) := by decide +kernel
theorem dX4_meaningOf_15 : decode cX4_meaningOf 15 = .ok (.iload_n 2, 1) := by decide +kernel
theorem dX4_meaningOf_16 : decode cX4_meaningOf 16 = .ok (.iaload, 1) := by decide +kernel
theorem dX4_meaningOf_17 : decode cX4_meaningOf 17 = .ok (.iload_n 1, 1) := by decide +kernel
theorem dX4_meaningOf_18 : decode cX4_meaningOf 18 = .ok (.if_icmp .ne 10, 3) := by decide +kernel
theorem dX4_meaningOf_21 : decode cX4_meaningOf 21 = .ok (.aload_n 0, 1) := by decide +kernel
theorem dX4_meaningOf_22 : decode cX4_meaningOf 22 = .ok (.getfield 18, 3) := by decide +kernel
theorem dX4_meaningOf_25 : decode cX4_meaningOf 25 = .ok (.iload_n 2, 1) := by decide +kernel
theorem dX4_meaningOf_26 : decode cX4_meaningOf 26 = .ok (.iaload, 1) := by decide +kernel
theorem dX4_meaningOf_27 : decode cX4_meaningOf 27 = .ok (.ireturn, 1) := by decide +kernel
theorem dX4_meaningOf_28 : decode cX4_meaningOf 28 = .ok (.iinc 2 (-1), 3) := by decide +kernel
theorem dX4_meaningOf_31 : decode cX4_meaningOf 31 = .ok (.goto (-24), 3) := by decide +kernel
theorem dX4_meaningOf_34 : decode cX4_meaningOf 34 = .ok (.aload_n 0, 1) := by decide +kernel
theorem dX4_meaningOf_35 : decode cX4_meaningOf 35 = .ok (.getfield 29, 3) := by decide +kernel
theorem dX4_meaningOf_38 : decode cX4_meaningOf 38 = .ok (.iload_n 1, 1) := by decide +kernel
theorem dX4_meaningOf_39 : decode cX4_meaningOf 39 = .ok (.invokevirtual 108, 3) := by decide +kernel
theorem dX4_meaningOf_42 : decode cX4_meaningOf 42 = .ok (.ireturn, 1) := by decide +kernel
theorem dX4_readLet_0 : decode cX4_readLet 0 = .ok (.aload_n 0, 1) := by decide +kernel
theorem dX4_readLet_1 : decode cX4_readLet 1 = .ok (.dup, 1) := by decide +kernel
theorem dX4_readLet_2 : decode cX4_readLet 2 = .ok (.getfield 33, 3) := by decide +kernel
theorem dX4_readLet_5 : decode cX4_readLet 5 = .ok (.iconst 1, 1) := by decide +kernel
theorem dX4_readLet_6 : decode cX4_readLet 6 = .ok (.iadd, 1) := by decide +kernel
theorem dX4_readLet_7 : decode cX4_readLet 7 = .ok (.putfield 33, 3) := by decide +kernel
theorem dX4_readLet_10 : decode cX4_readLet 10 = .ok (.aload_n 0, 1) := by decide +kernel
theorem dX4_readLet_11 : decode cX4_readLet 11 = .ok (.bipush 40, 2) := by decide +kernel
theorem dX4_readLet_13 : decode cX4_readLet 13 = .ok (.invokevirtual 43, 3) := by decide +kernel
theorem dX4_readLet_16 : decode cX4_readLet 16 = .ok (.ifCond .eq 12, 3) := by decide +kernel
theorem dX4_readLet_19 : decode cX4_readLet 19 = .ok (.aload_n 0, 1) := by decide +kernel
theorem dX4_readLet_20 : decode cX4_readLet 20 = .ok (.bipush 40, 2) := by decide +kernel
theorem dX4_readLet_22 : decode cX4_readLet 22 = .ok (.invokevirtual 43, 3) := by decide +kernel
theorem dX4_readLet_25 : decode cX4_readLet 25 = .ok (.ifCond .ne 5, 3) := by decide +kernel
theorem dX4_readLet_28 : decode cX4_readLet 28 = .ok (.iconst (-1), 1) := by decide +kernel
theorem dX4_readLet_29 : decode cX4_readLet 29 = .ok (.ireturn, 1) := by decide +kernel
theorem dX4_readLet_30 : decode cX4_readLet 30 = .ok (.aload_n 0, 1) := by decide +kernel
theorem dX4_readLet_31 : decode cX4_readLet 31 = .ok (.getfield 21, 3) := by decide +kernel
theorem dX4_readLet_34 : decode cX4_readLet 34 = .ok (.aload_n 0, 1) := by decide +kernel
theorem dX4_readLet_35 : decode cX4_readLet 35 = .ok (.getfield 33, 3) := by decide +kernel
theorem dX4_readLet_38 : decode cX4_readLet 38 = .ok (.invokevirtual 102, 3) := by decide +kernel
theorem dX4_readLet_41 : decode cX4_readLet 41 = .ok (.istore_n 2, 1) := by decide +kernel
theorem dX4_readLet_42 : decode cX4_readLet 42 = .ok (.iload_n 2, 1) := by decide +kernel
theorem dX4_readLet_43 : decode cX4_readLet 43 = .ok (.ifCond .eq 12, 3) := by decide +kernel
theorem dX4_readLet_46 : decode cX4_readLet 46 = .ok (.aload_n 0, 1) := by decide +kernel
theorem dX4_readLet_47 : decode cX4_readLet 47 = .ok (.getfield 37, 3) := by decide +kernel
theorem dX4_readLet_50 : decode cX4_readLet 50 = .ok (.bipush 8, 2) := by decide +kernel
theorem dX4_readLet_52 : decode cX4_readLet 52 = .ok (.if_icmp .lt 12, 3) := by decide +kernel
theorem dX4_readLet_55 : decode cX4_readLet 55 = .ok (.aload_n 0, 1) := by decide +kernel
theorem dX4_readLet_56 : decode cX4_readLet 56 = .ok (.aload_n 0, 1) := by decide +kernel
theorem dX4_readLet_57 : decode cX4_readLet 57 = .ok (.getfield 33, 3) := by decide +kernel
theorem dX4_readLet_60 : decode cX4_readLet 60 = .ok (.invokevirtual 137, 3) := by decide +kernel
theorem dX4_readLet_63 : decode cX4_readLet 63 = .ok (.ireturn, 1) := by decide +kernel
theorem dX4_readLet_64 : decode cX4_readLet 64 = .ok (.aload_n 0, 1) := by decide +kernel
theorem dX4_readLet_65 : decode cX4_readLet 65 = .ok (.dup, 1) := by decide +kernel
theorem dX4_readLet_66 : decode cX4_readLet 66 = .ok (.getfield 33, 3) := by decide +kernel
theorem dX4_readLet_69 : decode cX4_readLet 69 = .ok (.iconst 1, 1) := by decide +kernel
theorem dX4_readLet_70 : decode cX4_readLet 70 = .ok (.iadd, 1) := by decide +kernel
theorem dX4_readLet_71 : decode cX4_readLet 71 = .ok (.putfield 33, 3) := by decide +kernel
theorem dX4_readLet_74 : decode cX4_readLet 74 = .ok (.aload_n 0, 1) := by decide +kernel
theorem dX4_readLet_75 : decode cX4_readLet 75 = .ok (.iload_n 1, 1) := by decide +kernel
theorem dX4_readLet_76 : decode cX4_readLet 76 = .ok (.iconst 1, 1) := by decide +kernel
theorem dX4_readLet_77 : decode cX4_readLet 77 = .ok (.iadd, 1) := by decide +kernel
theorem dX4_readLet_78 : decode cX4_readLet 78 = .ok (.invokevirtual 86, 3) := by decide +kernel
theorem dX4_readLet_81 : decode cX4_readLet 81 = .ok (.istore_n 3, 1) := by decide +kernel
theorem dX4_readLet_82 : decode cX4_readLet 82 = .ok (.iload_n 3, 1) := by decide +kernel
theorem dX4_readLet_83 : decode cX4_readLet 83 = .ok (.iconst (-1), 1) := by decide +kernel
theorem dX4_readLet_84 : decode cX4_readLet 84 = .ok (.if_icmp .eq 21, 3) := by decide +kernel
theorem dX4_readLet_87 : decode cX4_readLet 87 = .ok (.aload_n 0, 1) := by decide +kernel
theorem dX4_readLet_88 : decode cX4_readLet 88 = .ok (.bipush 41, 2) := by decide +kernel
theorem dX4_readLet_90 : decode cX4_readLet 90 = .ok (.invokevirtual 43, 3) := by decide +kernel
theorem dX4_readLet_93 : decode cX4_readLet 93 = .ok (.ifCond .eq 12, 3) := by decide +kernel
theorem dX4_readLet_96 : decode cX4_readLet 96 = .ok (.aload_n 0, 1) := by decide +kernel
theorem dX4_readLet_97 : decode cX4_readLet 97 = .ok (.bipush 41, 2) := by decide +kernel
theorem dX4_readLet_99 : decode cX4_readLet 99 = .ok (.invokevirtual 43, 3) := by decide +kernel
theorem dX4_readLet_102 : decode cX4_readLet 102 = .ok (.ifCond .ne 5, 3) := by decide +kernel
theorem dX4_readLet_105 : decode cX4_readLet 105 = .ok (.iconst (-1), 1) := by decide +kernel
theorem dX4_readLet_106 : decode cX4_readLet 106 = .ok (.ireturn, 1) := by decide +kernel
theorem dX4_readLet_107 : decode cX4_readLet 107 = .ok (.aload_n 0, 1) := by decide +kernel
theorem dX4_readLet_108 : decode cX4_readLet 108 = .ok (.getfield 15, 3) := by decide +kernel
theorem dX4_readLet_111 : decode cX4_readLet 111 = .ok (.aload_n 0, 1) := by decide +kernel
theorem dX4_readLet_112 : decode cX4_readLet 112 = .ok (.getfield 37, 3) := by decide +kernel
theorem dX4_readLet_115 : decode cX4_readLet 115 = .ok (.iload_n 2, 1) := by decide +kernel
theorem dX4_readLet_116 : decode cX4_readLet 116 = .ok (.iastore, 1) := by decide +kernel
theorem dX4_readLet_117 : decode cX4_readLet 117 = .ok (.aload_n 0, 1) := by decide +kernel
theorem dX4_readLet_118 : decode cX4_readLet 118 = .ok (.getfield 18, 3) := by decide +kernel
theorem dX4_readLet_121 : decode cX4_readLet 121 = .ok (.aload_n 0, 1) := by decide +kernel
theorem dX4_readLet_122 : decode cX4_readLet 122 = .ok (.getfield 37, 3) := by decide +kernel
theorem dX4_readLet_125 : decode cX4_readLet 125 = .ok (.iload_n 3, 1) := by decide +kernel
theorem dX4_readLet_126 : decode cX4_readLet 126 = .ok (.iastore, 1) := by decide +kernel
theorem dX4_readLet_127 : decode cX4_readLet 127 = .ok (.aload_n 0, 1) := by decide +kernel
theorem dX4_readLet_128 : decode cX4_readLet 128 = .ok (.dup, 1) := by decide +kernel
theorem dX4_readLet_129 : decode cX4_readLet 129 = .ok (.getfield 37, 3) := by decide +kernel
theorem dX4_readLet_132 : decode cX4_readLet 132 = .ok (.iconst 1, 1) := by decide +kernel
theorem dX4_readLet_133 : decode cX4_readLet 133 = .ok (.iadd, 1) := by decide +kernel
theorem dX4_readLet_134 : decode cX4_readLet 134 = .ok (.putfield 37, 3) := by decide +kernel
theorem dX4_readLet_137 : decode cX4_readLet 137 = .ok (.aload_n 0, 1) := by decide +kernel
theorem dX4_readLet_138 : decode cX4_readLet 138 = .ok (.iload_n 1, 1) := by decide +kernel
theorem dX4_readLet_139 : decode cX4_readLet 139 = .ok (.iconst 1, 1) := by decide +kernel
theorem dX4_readLet_140 : decode cX4_readLet 140 = .ok (.iadd, 1) := by decide +kernel
theorem dX4_readLet_141 : decode cX4_readLet 141 = .ok (.invokevirtual 86, 3) := by decide +kernel
theorem dX4_readLet_144 : decode cX4_readLet 144 = .ok (.istore 4, 2) := by decide +kernel
theorem dX4_readLet_146 : decode cX4_readLet 146 = .ok (.aload_n 0, 1) := by decide +kernel
theorem dX4_readLet_147 : decode cX4_readLet 147 = .ok (.dup, 1) := by decide +kernel
theorem dX4_readLet_148 : decode cX4_readLet 148 = .ok (.getfield 37, 3) := by decide +kernel
theorem dX4_readLet_151 : decode cX4_readLet 151 = .ok (.iconst 1, 1) := by decide +kernel
theorem dX4_readLet_152 : decode cX4_readLet 152 = .ok (.isub, 1) := by decide +kernel
theorem dX4_readLet_153 : decode cX4_readLet 153 = .ok (.putfield 37, 3) := by decide +kernel
theorem dX4_readLet_156 : decode cX4_readLet 156 = .ok (.iload 4, 2) := by decide +kernel
theorem dX4_readLet_158 : decode cX4_readLet 158 = .ok (.iconst (-1), 1) := by decide +kernel
theorem dX4_readLet_159 : decode cX4_readLet 159 = .ok (.if_icmp .eq 17, 3) := by decide +kernel
theorem dX4_readLet_162 : decode cX4_readLet 162 = .ok (.aload_n 0, 1) := by decide +kernel
theorem dX4_readLet_163 : decode cX4_readLet 163 = .ok (.bipush 41, 2) := by decide +kernel
theorem dX4_readLet_165 : decode cX4_readLet 165 = .ok (.invokevirtual 43, 3) := by decide +kernel
theorem dX4_readLet_168 : decode cX4_readLet 168 = .ok (.ifCond .eq 8, 3) := by decide +kernel
theorem dX4_readLet_171 : decode cX4_readLet 171 = .ok (.iload 4, 2) := by decide +kernel
theorem dX4_readLet_173 : decode cX4_readLet 173 = .ok (.goto 4, 3) := by decide +kernel
theorem dX4_readLet_176 : decode cX4_readLet 176 = .ok (.iconst (-1), 1) := by decide +kernel
theorem dX4_readLet_177 : decode cX4_readLet 177 = .ok (.ireturn, 1) := by decide +kernel
theorem dX4_readNumbered_0 : decode cX4_readNumbered 0 = .ok (.aload_n 0, 1) := by decide +kernel
theorem dX4_readNumbered_1 : decode cX4_readNumbered 1 = .ok (.dup, 1) := by decide +kernel
theorem dX4_readNumbered_2 : decode cX4_readNumbered 2 = .ok (.getfield 33, 3) := by decide +kernel
theorem dX4_readNumbered_5 : decode cX4_readNumbered 5 = .ok (.iconst 1, 1) := by decide +kernel
theorem dX4_readNumbered_6 : decode cX4_readNumbered 6 = .ok (.iadd, 1) := by decide +kernel
theorem dX4_readNumbered_7 : decode cX4_readNumbered 7 = .ok (.putfield 33, 3) := by decide +kernel
theorem dX4_readNumbered_10 : decode cX4_readNumbered 10 = .ok (.aload_n 0, 1) := by decide +kernel
theorem dX4_readNumbered_11 : decode cX4_readNumbered 11 = .ok (.getstatic 125, 3) := by decide +kernel
theorem dX4_readNumbered_14 : decode cX4_readNumbered 14 = .ok (.invokevirtual 128, 3) := by decide +kernel
theorem dX4_readNumbered_17 : decode cX4_readNumbered 17 = .ok (.ifCond .ne 5, 3) := by decide +kernel
theorem dX4_readNumbered_20 : decode cX4_readNumbered 20 = .ok (.iconst (-1), 1) := by decide +kernel
theorem dX4_readNumbered_21 : decode cX4_readNumbered 21 = .ok (.ireturn, 1) := by decide +kernel
theorem dX4_readNumbered_22 : decode cX4_readNumbered 22 = .ok (.aload_n 0, 1) := by decide +kernel
theorem dX4_readNumbered_23 : decode cX4_readNumbered 23 = .ok (.getfield 21, 3) := by decide +kernel
theorem dX4_readNumbered_26 : decode cX4_readNumbered 26 = .ok (.aload_n 0, 1) := by decide +kernel
theorem dX4_readNumbered_27 : decode cX4_readNumbered 27 = .ok (.getfield 33, 3) := by decide +kernel
theorem dX4_readNumbered_30 : decode cX4_readNumbered 30 = .ok (.invokevirtual 47, 3) := by decide +kernel
theorem dX4_readNumbered_33 : decode cX4_readNumbered 33 = .ok (.astore_n 2, 1) := by decide +kernel
theorem dX4_readNumbered_34 : decode cX4_readNumbered 34 = .ok (.aload_n 2, 1) := by decide +kernel
theorem dX4_readNumbered_35 : decode cX4_readNumbered 35 = .ok (.ifnull 10, 3) := by decide +kernel
theorem dX4_readNumbered_38 : decode cX4_readNumbered 38 = .ok (.aload_n 2, 1) := by decide +kernel
theorem dX4_readNumbered_39 : decode cX4_readNumbered 39 = .ok (.invokevirtual 155, 3) := by decide +kernel
theorem dX4_readNumbered_42 : decode cX4_readNumbered 42 = .ok (.ifCond .ne 12, 3) := by decide +kernel
theorem dX4_readNumbered_45 : decode cX4_readNumbered 45 = .ok (.aload_n 0, 1) := by decide +kernel
theorem dX4_readNumbered_46 : decode cX4_readNumbered 46 = .ok (.aload_n 0, 1) := by decide +kernel
theorem dX4_readNumbered_47 : decode cX4_readNumbered 47 = .ok (.getfield 33, 3) := by decide +kernel
theorem dX4_readNumbered_50 : decode cX4_readNumbered 50 = .ok (.invokevirtual 137, 3) := by decide +kernel
theorem dX4_readNumbered_53 : decode cX4_readNumbered 53 = .ok (.ireturn, 1) := by decide +kernel
theorem dX4_readNumbered_54 : decode cX4_readNumbered 54 = .ok (.aload_n 0, 1) := by decide +kernel
theorem dX4_readNumbered_55 : decode cX4_readNumbered 55 = .ok (.dup, 1) := by decide +kernel
theorem dX4_readNumbered_56 : decode cX4_readNumbered 56 = .ok (.getfield 33, 3) := by decide +kernel
theorem dX4_readNumbered_59 : decode cX4_readNumbered 59 = .ok (.iconst 1, 1) := by decide +kernel
theorem dX4_readNumbered_60 : decode cX4_readNumbered 60 = .ok (.iadd, 1) := by decide +kernel
theorem dX4_readNumbered_61 : decode cX4_readNumbered 61 = .ok (.putfield 33, 3) := by decide +kernel
theorem dX4_readNumbered_64 : decode cX4_readNumbered 64 = .ok (.aload_n 0, 1) := by decide +kernel
theorem dX4_readNumbered_65 : decode cX4_readNumbered 65 = .ok (.getfield 21, 3) := by decide +kernel
theorem dX4_readNumbered_68 : decode cX4_readNumbered 68 = .ok (.aload_n 0, 1) := by decide +kernel
theorem dX4_readNumbered_69 : decode cX4_readNumbered 69 = .ok (.getfield 33, 3) := by decide +kernel
theorem dX4_readNumbered_72 : decode cX4_readNumbered 72 = .ok (.invokevirtual 134, 3) := by decide +kernel
theorem dX4_readNumbered_75 : decode cX4_readNumbered 75 = .ok (.istore_n 3, 1) := by decide +kernel
theorem dX4_readNumbered_76 : decode cX4_readNumbered 76 = .ok (.iload_n 3, 1) := by decide +kernel
theorem dX4_readNumbered_77 : decode cX4_readNumbered 77 = .ok (.iconst (-1), 1) := by decide +kernel
theorem dX4_readNumbered_78 : decode cX4_readNumbered 78 = .ok (.if_icmp .ne 12, 3) := by decide +kernel
theorem dX4_readNumbered_81 : decode cX4_readNumbered 81 = .ok (.aload_n 0, 1) := by decide +kernel
theorem dX4_readNumbered_82 : decode cX4_readNumbered 82 = .ok (.aload_n 0, 1) := by decide +kernel
theorem dX4_readNumbered_83 : decode cX4_readNumbered 83 = .ok (.getfield 33, 3) := by decide +kernel
theorem dX4_readNumbered_86 : decode cX4_readNumbered 86 = .ok (.invokevirtual 137, 3) := by decide +kernel
theorem dX4_readNumbered_89 : decode cX4_readNumbered 89 = .ok (.ireturn, 1) := by decide +kernel
theorem dX4_readNumbered_90 : decode cX4_readNumbered 90 = .ok (.aload_n 0, 1) := by decide +kernel
theorem dX4_readNumbered_91 : decode cX4_readNumbered 91 = .ok (.dup, 1) := by decide +kernel
theorem dX4_readNumbered_92 : decode cX4_readNumbered 92 = .ok (.getfield 33, 3) := by decide +kernel
theorem dX4_readNumbered_95 : decode cX4_readNumbered 95 = .ok (.iconst 1, 1) := by decide +kernel
theorem dX4_readNumbered_96 : decode cX4_readNumbered 96 = .ok (.iadd, 1) := by decide +kernel
theorem dX4_readNumbered_97 : decode cX4_readNumbered 97 = .ok (.putfield 33, 3) := by decide +kernel
theorem dX4_readNumbered_100 : decode cX4_readNumbered 100 = .ok (.iconst 0, 1) := by decide +kernel
theorem dX4_readNumbered_101 : decode cX4_readNumbered 101 = .ok (.istore 4, 2) := by decide +kernel
theorem dX4_readNumbered_103 : decode cX4_readNumbered 103 = .ok (.aload_n 2, 1) := by decide +kernel
theorem dX4_readNumbered_104 : decode cX4_readNumbered 104 = .ok (.getstatic 185, 3) := by decide +kernel
theorem dX4_readNumbered_107 : decode cX4_readNumbered 107 = .ok (.if_acmp .ne 47, 3) := by decide +kernel
theorem dX4_readNumbered_110 : decode cX4_readNumbered 110 = .ok (.aload_n 0, 1) := by decide +kernel
theorem dX4_readNumbered_111 : decode cX4_readNumbered 111 = .ok (.getfield 21, 3) := by decide +kernel
theorem dX4_readNumbered_114 : decode cX4_readNumbered 114 = .ok (.aload_n 0, 1) := by decide +kernel
theorem dX4_readNumbered_115 : decode cX4_readNumbered 115 = .ok (.getfield 33, 3) := by decide +kernel
theorem dX4_readNumbered_118 : decode cX4_readNumbered 118 = .ok (.invokevirtual 134, 3) := by decide +kernel
theorem dX4_readNumbered_121 : decode cX4_readNumbered 121 = .ok (.istore 4, 2) := by decide +kernel
theorem dX4_readNumbered_123 : decode cX4_readNumbered 123 = .ok (.iload 4, 2) := by decide +kernel
theorem dX4_readNumbered_125 : decode cX4_readNumbered 125 = .ok (.iconst (-1), 1) := by decide +kernel
theorem dX4_readNumbered_126 : decode cX4_readNumbered 126 = .ok (.if_icmp .eq 9, 3) := by decide +kernel
theorem dX4_readNumbered_129 : decode cX4_readNumbered 129 = .ok (.iload 4, 2) := by decide +kernel
theorem dX4_readNumbered_131 : decode cX4_readNumbered 131 = .ok (.iload_n 3, 1) := by decide +kernel
theorem dX4_readNumbered_132 : decode cX4_readNumbered 132 = .ok (.if_icmp .le 12, 3) := by decide +kernel
theorem dX4_readNumbered_135 : decode cX4_readNumbered 135 = .ok (.aload_n 0, 1) := by decide +kernel
theorem dX4_readNumbered_136 : decode cX4_readNumbered 136 = .ok (.aload_n 0, 1) := by decide +kernel
theorem dX4_readNumbered_137 : decode cX4_readNumbered 137 = .ok (.getfield 33, 3) := by decide +kernel
theorem dX4_readNumbered_140 : decode cX4_readNumbered 140 = .ok (.invokevirtual 137, 3) := by decide +kernel
theorem dX4_readNumbered_143 : decode cX4_readNumbered 143 = .ok (.ireturn, 1) := by decide +kernel
theorem dX4_readNumbered_144 : decode cX4_readNumbered 144 = .ok (.aload_n 0, 1) := by decide +kernel
theorem dX4_readNumbered_145 : decode cX4_readNumbered 145 = .ok (.dup, 1) := by decide +kernel
theorem dX4_readNumbered_146 : decode cX4_readNumbered 146 = .ok (.getfield 33, 3) := by decide +kernel
theorem dX4_readNumbered_149 : decode cX4_readNumbered 149 = .ok (.iconst 1, 1) := by decide +kernel
theorem dX4_readNumbered_150 : decode cX4_readNumbered 150 = .ok (.iadd, 1) := by decide +kernel
theorem dX4_readNumbered_151 : decode cX4_readNumbered 151 = .ok (.putfield 33, 3) := by decide +kernel
theorem dX4_readNumbered_154 : decode cX4_readNumbered 154 = .ok (.aload_n 0, 1) := by decide +kernel
theorem dX4_readNumbered_155 : decode cX4_readNumbered 155 = .ok (.bipush 41, 2) := by decide +kernel
theorem dX4_readNumbered_157 : decode cX4_readNumbered 157 = .ok (.invokevirtual 43, 3) := by decide +kernel
theorem dX4_readNumbered_160 : decode cX4_readNumbered 160 = .ok (.ifCond .eq 15, 3) := by decide +kernel
theorem dX4_readNumbered_163 : decode cX4_readNumbered 163 = .ok (.aload_n 0, 1) := by decide +kernel
theorem dX4_readNumbered_164 : decode cX4_readNumbered 164 = .ok (.aload_n 2, 1) := by decide +kernel
theorem dX4_readNumbered_165 : decode cX4_readNumbered 165 = .ok (.iload_n 3, 1) := by decide +kernel
theorem dX4_readNumbered_166 : decode cX4_readNumbered 166 = .ok (.iload 4, 2) := by decide +kernel
theorem dX4_readNumbered_168 : decode cX4_readNumbered 168 = .ok (.iload_n 1, 1) := by decide +kernel
theorem dX4_readNumbered_169 : decode cX4_readNumbered 169 = .ok (.invokevirtual 158, 3) := by decide +kernel
theorem dX4_readNumbered_172 : decode cX4_readNumbered 172 = .ok (.goto 4, 3) := by decide +kernel
theorem dX4_readNumbered_175 : decode cX4_readNumbered 175 = .ok (.iconst (-1), 1) := by decide +kernel
theorem dX4_readNumbered_176 : decode cX4_readNumbered 176 = .ok (.ireturn, 1) := by decide +kernel
theorem dX4_readParts_0 : decode cX4_readParts 0 = .ok (.iconst 3, 1) := by decide +kernel
theorem dX4_readParts_1 : decode cX4_readParts 1 = .ok (.iload 4, 2) := by decide +kernel
theorem dX4_readParts_3 : decode cX4_readParts 3 = .ok (.imul, 1) := by decide +kernel
theorem dX4_readParts_4 : decode cX4_readParts 4 = .ok (.istore 5, 2) := by decide +kernel
theorem dX4_readParts_6 : decode cX4_readParts 6 = .ok (.iconst 0, 1) := by decide +kernel
theorem dX4_readParts_7 : decode cX4_readParts 7 = .ok (.istore 6, 2) := by decide +kernel
theorem dX4_readParts_9 : decode cX4_readParts 9 = .ok (.iload 6, 2) := by decide +kernel
theorem dX4_readParts_11 : decode cX4_readParts 11 = .ok (.aload_n 1, 1) := by decide +kernel
theorem dX4_readParts_12 : decode cX4_readParts 12 = .ok (.getfield 153, 3) := by decide +kernel
theorem dX4_readParts_15 : decode cX4_readParts 15 = .ok (.if_icmp .ge 75, 3) := by decide +kernel
theorem dX4_readParts_18 : decode cX4_readParts 18 = .ok (.iload 6, 2) := by decide +kernel
theorem dX4_readParts_20 : decode cX4_readParts 20 = .ok (.iconst 3, 1) := by decide +kernel
theorem dX4_readParts_21 : decode cX4_readParts 21 = .ok (.if_icmp .ge 69, 3) := by decide +kernel
theorem dX4_readParts_24 : decode cX4_readParts 24 = .ok (.aload_n 0, 1) := by decide +kernel
theorem dX4_readParts_25 : decode cX4_readParts 25 = .ok (.getfield 33, 3) := by decide +kernel
theorem dX4_readParts_28 : decode cX4_readParts 28 = .ok (.istore 7, 2) := by decide +kernel
theorem dX4_readParts_30 : decode cX4_readParts 30 = .ok (.aload_n 0, 1) := by decide +kernel
theorem dX4_readParts_31 : decode cX4_readParts 31 = .ok (.getfield 9, 3) := by decide +kernel
theorem dX4_readParts_34 : decode cX4_readParts 34 = .ok (.iload 5, 2) := by decide +kernel
theorem dX4_readParts_36 : decode cX4_readParts 36 = .ok (.iload 6, 2) := by decide +kernel
theorem dX4_readParts_38 : decode cX4_readParts 38 = .ok (.iadd, 1) := by decide +kernel
theorem dX4_readParts_39 : decode cX4_readParts 39 = .ok (.aload_n 0, 1) := by decide +kernel
theorem dX4_readParts_40 : decode cX4_readParts 40 = .ok (.iload 4, 2) := by decide +kernel
theorem dX4_readParts_42 : decode cX4_readParts 42 = .ok (.iconst 1, 1) := by decide +kernel
theorem dX4_readParts_43 : decode cX4_readParts 43 = .ok (.iadd, 1) := by decide +kernel
theorem dX4_readParts_44 : decode cX4_readParts 44 = .ok (.invokevirtual 86, 3) := by decide +kernel
theorem dX4_readParts_47 : decode cX4_readParts 47 = .ok (.iastore, 1) := by decide +kernel
theorem dX4_readParts_48 : decode cX4_readParts 48 = .ok (.aload_n 0, 1) := by decide +kernel
theorem dX4_readParts_49 : decode cX4_readParts 49 = .ok (.getfield 9, 3) := by decide +kernel
theorem dX4_readParts_52 : decode cX4_readParts 52 = .ok (.iload 5, 2) := by decide +kernel
theorem dX4_readParts_54 : decode cX4_readParts 54 = .ok (.iload 6, 2) := by decide +kernel
theorem dX4_readParts_56 : decode cX4_readParts 56 = .ok (.iadd, 1) := by decide +kernel
theorem dX4_readParts_57 : decode cX4_readParts 57 = .ok (.iaload, 1) := by decide +kernel
theorem dX4_readParts_58 : decode cX4_readParts 58 = .ok (.iconst (-1), 1) := by decide +kernel
theorem dX4_readParts_59 : decode cX4_readParts 59 = .ok (.if_icmp .ne 5, 3) := by decide +kernel
theorem dX4_readParts_62 : decode cX4_readParts 62 = .ok (.iconst (-1), 1) := by decide +kernel
theorem dX4_readParts_63 : decode cX4_readParts 63 = .ok (.ireturn, 1) := by decide +kernel
theorem dX4_readParts_64 : decode cX4_readParts 64 = .ok (.aload_n 0, 1) := by decide +kernel
theorem dX4_readParts_65 : decode cX4_readParts 65 = .ok (.aload_n 1, 1) := by decide +kernel
theorem dX4_readParts_66 : decode cX4_readParts 66 = .ok (.iload 6, 2) := by decide +kernel
theorem dX4_readParts_68 : decode cX4_readParts 68 = .ok (.iload 5, 2) := by decide +kernel
theorem dX4_readParts_70 : decode cX4_readParts 70 = .ok (.iload_n 2, 1) := by decide +kernel
theorem dX4_readParts_71 : decode cX4_readParts 71 = .ok (.invokevirtual 188, 3) := by decide +kernel
theorem dX4_readParts_74 : decode cX4_readParts 74 = .ok (.ifCond .ne 10, 3) := by decide +kernel
theorem dX4_readParts_77 : decode cX4_readParts 77 = .ok (.aload_n 0, 1) := by decide +kernel
theorem dX4_readParts_78 : decode cX4_readParts 78 = .ok (.iload 7, 2) := by decide +kernel
theorem dX4_readParts_80 : decode cX4_readParts 80 = .ok (.invokevirtual 137, 3) := by decide +kernel
theorem dX4_readParts_83 : decode cX4_readParts 83 = .ok (.ireturn, 1) := by decide +kernel
theorem dX4_readParts_84 : decode cX4_readParts 84 = .ok (.iinc 6 1, 3) := by decide +kernel
theorem dX4_readParts_87 : decode cX4_readParts 87 = .ok (.goto (-78), 3) := by decide +kernel
theorem dX4_readParts_90 : decode cX4_readParts 90 = .ok (.aload_n 0, 1) := by decide +kernel
theorem dX4_readParts_91 : decode cX4_readParts 91 = .ok (.bipush 41, 2) := by decide +kernel
theorem dX4_readParts_93 : decode cX4_readParts 93 = .ok (.invokevirtual 43, 3) := by decide +kernel
theorem dX4_readParts_96 : decode cX4_readParts 96 = .ok (.ifCond .ne 5, 3) := by decide +kernel
theorem dX4_readParts_99 : decode cX4_readParts 99 = .ok (.iconst (-1), 1) := by decide +kernel
theorem dX4_readParts_100 : decode cX4_readParts 100 = .ok (.ireturn, 1) := by decide +kernel
theorem dX4_readParts_101 : decode cX4_readParts 101 = .ok (.aload_n 0, 1) := by decide +kernel
theorem dX4_readParts_102 : decode cX4_readParts 102 = .ok (.getfield 25, 3) := by decide +kernel
theorem dX4_readParts_105 : decode cX4_readParts 105 = .ok (.aload_n 1, 1) := by decide +kernel
theorem dX4_readParts_106 : decode cX4_readParts 106 = .ok (.iload_n 2, 1) := by decide +kernel
theorem dX4_readParts_107 : decode cX4_readParts 107 = .ok (.iload_n 3, 1) := by decide +kernel
theorem dX4_readParts_108 : decode cX4_readParts 108 = .ok (.aload_n 0, 1) := by decide +kernel
theorem dX4_readParts_109 : decode cX4_readParts 109 = .ok (.aload_n 1, 1) := by decide +kernel
theorem dX4_readParts_110 : decode cX4_readParts 110 = .ok (.iload 5, 2) := by decide +kernel
theorem dX4_readParts_112 : decode cX4_readParts 112 = .ok (.iload_n 2, 1) := by decide +kernel
theorem dX4_readParts_113 : decode cX4_readParts 113 = .ok (.iload_n 3, 1) := by decide +kernel
theorem dX4_readParts_114 : decode cX4_readParts 114 = .ok (.invokevirtual 192, 3) := by decide +kernel
theorem dX4_readParts_117 : decode cX4_readParts 117 = .ok (.invokevirtual 168, 3) := by decide +kernel
theorem dX4_readParts_120 : decode cX4_readParts 120 = .ok (.iconst 0, 1) := by decide +kernel
theorem dX4_readParts_121 : decode cX4_readParts 121 = .ok (.istore 6, 2) := by decide +kernel
theorem dX4_readParts_123 : decode cX4_readParts 123 = .ok (.iload 6, 2) := by decide +kernel
theorem dX4_readParts_125 : decode cX4_readParts 125 = .ok (.aload_n 1, 1) := by decide +kernel
theorem dX4_readParts_126 : decode cX4_readParts 126 = .ok (.getfield 153, 3) := by decide +kernel
theorem dX4_readParts_129 : decode cX4_readParts 129 = .ok (.if_icmp .ge 34, 3) := by decide +kernel
theorem dX4_readParts_132 : decode cX4_readParts 132 = .ok (.iload 6, 2) := by decide +kernel
theorem dX4_readParts_134 : decode cX4_readParts 134 = .ok (.iconst 3, 1) := by decide +kernel
theorem dX4_readParts_135 : decode cX4_readParts 135 = .ok (.if_icmp .ge 28, 3) := by decide +kernel
theorem dX4_readParts_138 : decode cX4_readParts 138 = .ok (.aload_n 0, 1) := by decide +kernel
theorem dX4_readParts_139 : decode cX4_readParts 139 = .ok (.getfield 25, 3) := by decide +kernel
theorem dX4_readParts_142 : decode cX4_readParts 142 = .ok (.iload 6, 2) := by decide +kernel
theorem dX4_readParts_144 : decode cX4_readParts 144 = .ok (.aload_n 0, 1) := by decide +kernel
theorem dX4_readParts_145 : decode cX4_readParts 145 = .ok (.getfield 9, 3) := by decide +kernel
theorem dX4_readParts_148 : decode cX4_readParts 148 = .ok (.iload 5, 2) := by decide +kernel
theorem dX4_readParts_150 : decode cX4_readParts 150 = .ok (.iload 6, 2) := by decide +kernel
theorem dX4_readParts_152 : decode cX4_readParts 152 = .ok (.iadd, 1) := by decide +kernel
theorem dX4_readParts_153 : decode cX4_readParts 153 = .ok (.iaload, 1) := by decide +kernel
theorem dX4_readParts_154 : decode cX4_readParts 154 = .ok (.invokevirtual 195, 3) := by decide +kernel
theorem dX4_readParts_157 : decode cX4_readParts 157 = .ok (.iinc 6 1, 3) := by decide +kernel
theorem dX4_readParts_160 : decode cX4_readParts 160 = .ok (.goto (-37), 3) := by decide +kernel
theorem dX4_readParts_163 : decode cX4_readParts 163 = .ok (.aload_n 0, 1) := by decide +kernel
theorem dX4_readParts_164 : decode cX4_readParts 164 = .ok (.getfield 25, 3) := by decide +kernel
theorem dX4_readParts_167 : decode cX4_readParts 167 = .ok (.invokevirtual 172, 3) := by decide +kernel
theorem dX4_readParts_170 : decode cX4_readParts 170 = .ok (.ireturn, 1) := by decide +kernel
theorem dX4_fits_0 : decode cX4_fits 0 = .ok (.aload_n 0, 1) := by decide +kernel
theorem dX4_fits_1 : decode cX4_fits 1 = .ok (.getfield 25, 3) := by decide +kernel
theorem dX4_fits_4 : decode cX4_fits 4 = .ok (.aload_n 0, 1) := by decide +kernel
theorem dX4_fits_5 : decode cX4_fits 5 = .ok (.getfield 9, 3) := by decide +kernel
theorem dX4_fits_8 : decode cX4_fits 8 = .ok (.iload_n 3, 1) := by decide +kernel
theorem dX4_fits_9 : decode cX4_fits 9 = .ok (.iload_n 2, 1) := by decide +kernel
theorem dX4_fits_10 : decode cX4_fits 10 = .ok (.iadd, 1) := by decide +kernel
theorem dX4_fits_11 : decode cX4_fits 11 = .ok (.iaload, 1) := by decide +kernel
theorem dX4_fits_12 : decode cX4_fits 12 = .ok (.invokevirtual 93, 3) := by decide +kernel
theorem dX4_fits_15 : decode cX4_fits 15 = .ok (.istore 5, 2) := by decide +kernel
theorem dX4_fits_17 : decode cX4_fits 17 = .ok (.aload_n 0, 1) := by decide +kernel
theorem dX4_fits_18 : decode cX4_fits 18 = .ok (.getfield 25, 3) := by decide +kernel
theorem dX4_fits_21 : decode cX4_fits 21 = .ok (.aload_n 0, 1) := by decide +kernel
theorem dX4_fits_22 : decode cX4_fits 22 = .ok (.getfield 9, 3) := by decide +kernel
theorem dX4_fits_25 : decode cX4_fits 25 = .ok (.iload_n 3, 1) := by decide +kernel
theorem dX4_fits_26 : decode cX4_fits 26 = .ok (.iaload, 1) := by decide +kernel
theorem dX4_fits_27 : decode cX4_fits 27 = .ok (.invokevirtual 93, 3) := by decide +kernel
theorem dX4_fits_30 : decode cX4_fits 30 = .ok (.istore 6, 2) := by decide +kernel
theorem dX4_fits_32 : decode cX4_fits 32 = .ok (.aload_n 1, 1) := by decide +kernel
theorem dX4_fits_33 : decode cX4_fits 33 = .ok (.getfield 199, 3) := by decide +kernel
theorem dX4_fits_36 : decode cX4_fits 36 = .ok (.tableswitch 247 1 9 #[52, 63, 76, 119, 119, 140, 167, 188, 211], 52) := by decide +kernel
theorem dX4_fits_88 : decode cX4_fits 88 = .ok (.iload 5, 2) := by decide +kernel
theorem dX4_fits_90 : decode cX4_fits 90 = .ok (.ifCond .ne 7, 3) := by decide +kernel
theorem dX4_fits_93 : decode cX4_fits 93 = .ok (.iconst 1, 1) := by decide +kernel
theorem dX4_fits_94 : decode cX4_fits 94 = .ok (.goto 4, 3) := by decide +kernel
theorem dX4_fits_97 : decode cX4_fits 97 = .ok (.iconst 0, 1) := by decide +kernel
theorem dX4_fits_98 : decode cX4_fits 98 = .ok (.ireturn, 1) := by decide +kernel
theorem dX4_fits_99 : decode cX4_fits 99 = .ok (.iload 5, 2) := by decide +kernel
theorem dX4_fits_101 : decode cX4_fits 101 = .ok (.iload 6, 2) := by decide +kernel
theorem dX4_fits_103 : decode cX4_fits 103 = .ok (.if_icmp .ne 7, 3) := by decide +kernel
theorem dX4_fits_106 : decode cX4_fits 106 = .ok (.iconst 1, 1) := by decide +kernel
theorem dX4_fits_107 : decode cX4_fits 107 = .ok (.goto 4, 3) := by decide +kernel
theorem dX4_fits_110 : decode cX4_fits 110 = .ok (.iconst 0, 1) := by decide +kernel
theorem dX4_fits_111 : decode cX4_fits 111 = .ok (.ireturn, 1) := by decide +kernel
theorem dX4_fits_112 : decode cX4_fits 112 = .ok (.iload_n 2, 1) := by decide +kernel
theorem dX4_fits_113 : decode cX4_fits 113 = .ok (.ifCond .ne 16, 3) := by decide +kernel
theorem dX4_fits_116 : decode cX4_fits 116 = .ok (.iload 5, 2) := by decide +kernel
theorem dX4_fits_118 : decode cX4_fits 118 = .ok (.ifCond .ne 7, 3) := by decide +kernel
theorem dX4_fits_121 : decode cX4_fits 121 = .ok (.iconst 1, 1) := by decide +kernel
theorem dX4_fits_122 : decode cX4_fits 122 = .ok (.goto 32, 3) := by decide +kernel
theorem dX4_fits_125 : decode cX4_fits 125 = .ok (.iconst 0, 1) := by decide +kernel
theorem dX4_fits_126 : decode cX4_fits 126 = .ok (.goto 28, 3) := by decide +kernel
theorem dX4_fits_129 : decode cX4_fits 129 = .ok (.iload 5, 2) := by decide +kernel
theorem dX4_fits_131 : decode cX4_fits 131 = .ok (.aload_n 0, 1) := by decide +kernel
theorem dX4_fits_132 : decode cX4_fits 132 = .ok (.getfield 25, 3) := by decide +kernel
theorem dX4_fits_135 : decode cX4_fits 135 = .ok (.aload_n 0, 1) := by decide +kernel
theorem dX4_fits_136 : decode cX4_fits 136 = .ok (.getfield 9, 3) := by decide +kernel
theorem dX4_fits_139 : decode cX4_fits 139 = .ok (.iload_n 3, 1) := by decide +kernel
theorem dX4_fits_140 : decode cX4_fits 140 = .ok (.iconst 1, 1) := by decide +kernel
theorem dX4_fits_141 : decode cX4_fits 141 = .ok (.iadd, 1) := by decide +kernel
theorem dX4_fits_142 : decode cX4_fits 142 = .ok (.iaload, 1) := by decide +kernel
theorem dX4_fits_143 : decode cX4_fits 143 = .ok (.invokevirtual 93, 3) := by decide +kernel
theorem dX4_fits_146 : decode cX4_fits 146 = .ok (.if_icmp .ne 7, 3) := by decide +kernel
theorem dX4_fits_149 : decode cX4_fits 149 = .ok (.iconst 1, 1) := by decide +kernel
theorem dX4_fits_150 : decode cX4_fits 150 = .ok (.goto 4, 3) := by decide +kernel
theorem dX4_fits_153 : decode cX4_fits 153 = .ok (.iconst 0, 1) := by decide +kernel
theorem dX4_fits_154 : decode cX4_fits 154 = .ok (.ireturn, 1) := by decide +kernel
theorem dX4_fits_155 : decode cX4_fits 155 = .ok (.iload 5, 2) := by decide +kernel
theorem dX4_fits_157 : decode cX4_fits 157 = .ok (.invokestatic 202, 3) := by decide +kernel
theorem dX4_fits_160 : decode cX4_fits 160 = .ok (.ifCond .eq 14, 3) := by decide +kernel
theorem dX4_fits_163 : decode cX4_fits 163 = .ok (.iload 5, 2) := by decide +kernel
theorem dX4_fits_165 : decode cX4_fits 165 = .ok (.iload 6, 2) := by decide +kernel
theorem dX4_fits_167 : decode cX4_fits 167 = .ok (.if_icmp .ne 7, 3) := by decide +kernel
theorem dX4_fits_170 : decode cX4_fits 170 = .ok (.iconst 1, 1) := by decide +kernel
theorem dX4_fits_171 : decode cX4_fits 171 = .ok (.goto 4, 3) := by decide +kernel
theorem dX4_fits_174 : decode cX4_fits 174 = .ok (.iconst 0, 1) := by decide +kernel
theorem dX4_fits_175 : decode cX4_fits 175 = .ok (.ireturn, 1) := by decide +kernel
theorem dX4_fits_176 : decode cX4_fits 176 = .ok (.iload 5, 2) := by decide +kernel
theorem dX4_fits_178 : decode cX4_fits 178 = .ok (.invokestatic 202, 3) := by decide +kernel
theorem dX4_fits_181 : decode cX4_fits 181 = .ok (.ifCond .eq 20, 3) := by decide +kernel
theorem dX4_fits_184 : decode cX4_fits 184 = .ok (.iload_n 2, 1) := by decide +kernel
theorem dX4_fits_185 : decode cX4_fits 185 = .ok (.ifCond .eq 12, 3) := by decide +kernel
theorem dX4_fits_188 : decode cX4_fits 188 = .ok (.iload 6, 2) := by decide +kernel
theorem dX4_fits_190 : decode cX4_fits 190 = .ok (.iload 5, 2) := by decide +kernel
theorem dX4_fits_192 : decode cX4_fits 192 = .ok (.iadd, 1) := by decide +kernel
theorem dX4_fits_193 : decode cX4_fits 193 = .ok (.iconst 4, 1) := by decide +kernel
theorem dX4_fits_194 : decode cX4_fits 194 = .ok (.if_icmp .gt 7, 3) := by decide +kernel
theorem dX4_fits_197 : decode cX4_fits 197 = .ok (.iconst 1, 1) := by decide +kernel
theorem dX4_fits_198 : decode cX4_fits 198 = .ok (.goto 4, 3) := by decide +kernel
theorem dX4_fits_201 : decode cX4_fits 201 = .ok (.iconst 0, 1) := by decide +kernel
theorem dX4_fits_202 : decode cX4_fits 202 = .ok (.ireturn, 1) := by decide +kernel
theorem dX4_fits_203 : decode cX4_fits 203 = .ok (.iload 5, 2) := by decide +kernel
theorem dX4_fits_205 : decode cX4_fits 205 = .ok (.invokestatic 202, 3) := by decide +kernel
theorem dX4_fits_208 : decode cX4_fits 208 = .ok (.ifCond .eq 14, 3) := by decide +kernel
theorem dX4_fits_211 : decode cX4_fits 211 = .ok (.iload 5, 2) := by decide +kernel
theorem dX4_fits_213 : decode cX4_fits 213 = .ok (.iload 4, 2) := by decide +kernel
theorem dX4_fits_215 : decode cX4_fits 215 = .ok (.if_icmp .le 7, 3) := by decide +kernel
theorem dX4_fits_218 : decode cX4_fits 218 = .ok (.iconst 1, 1) := by decide +kernel
theorem dX4_fits_219 : decode cX4_fits 219 = .ok (.goto 4, 3) := by decide +kernel
theorem dX4_fits_222 : decode cX4_fits 222 = .ok (.iconst 0, 1) := by decide +kernel
theorem dX4_fits_223 : decode cX4_fits 223 = .ok (.ireturn, 1) := by decide +kernel
theorem dX4_fits_224 : decode cX4_fits 224 = .ok (.iload 5, 2) := by decide +kernel
theorem dX4_fits_226 : decode cX4_fits 226 = .ok (.invokestatic 202, 3) := by decide +kernel
theorem dX4_fits_229 : decode cX4_fits 229 = .ok (.ifCond .eq 16, 3) := by decide +kernel
theorem dX4_fits_232 : decode cX4_fits 232 = .ok (.iload 5, 2) := by decide +kernel
theorem dX4_fits_234 : decode cX4_fits 234 = .ok (.iload 4, 2) := by decide +kernel
theorem dX4_fits_236 : decode cX4_fits 236 = .ok (.iadd, 1) := by decide +kernel
theorem dX4_fits_237 : decode cX4_fits 237 = .ok (.iconst 4, 1) := by decide +kernel
theorem dX4_fits_238 : decode cX4_fits 238 = .ok (.if_icmp .gt 7, 3) := by decide +kernel
theorem dX4_fits_241 : decode cX4_fits 241 = .ok (.iconst 1, 1) := by decide +kernel
theorem dX4_fits_242 : decode cX4_fits 242 = .ok (.goto 4, 3) := by decide +kernel
theorem dX4_fits_245 : decode cX4_fits 245 = .ok (.iconst 0, 1) := by decide +kernel
theorem dX4_fits_246 : decode cX4_fits 246 = .ok (.ireturn, 1) := by decide +kernel
theorem dX4_fits_247 : decode cX4_fits 247 = .ok (.iload_n 2, 1) := by decide +kernel
theorem dX4_fits_248 : decode cX4_fits 248 = .ok (.ifCond .ne 11, 3) := by decide +kernel
theorem dX4_fits_251 : decode cX4_fits 251 = .ok (.iload 5, 2) := by decide +kernel
theorem dX4_fits_253 : decode cX4_fits 253 = .ok (.invokestatic 205, 3) := by decide +kernel
theorem dX4_fits_256 : decode cX4_fits 256 = .ok (.goto 26, 3) := by decide +kernel
theorem dX4_fits_259 : decode cX4_fits 259 = .ok (.iload 5, 2) := by decide +kernel
theorem dX4_fits_261 : decode cX4_fits 261 = .ok (.iload_n 2, 1) := by decide +kernel
theorem dX4_fits_262 : decode cX4_fits 262 = .ok (.iconst 1, 1) := by decide +kernel
theorem dX4_fits_263 : decode cX4_fits 263 = .ok (.if_icmp .ne 7, 3) := by decide +kernel
theorem dX4_fits_266 : decode cX4_fits 266 = .ok (.iconst 1, 1) := by decide +kernel
theorem dX4_fits_267 : decode cX4_fits 267 = .ok (.goto 7, 3) := by decide +kernel
theorem dX4_fits_270 : decode cX4_fits 270 = .ok (.iload 6, 2) := by decide +kernel
theorem dX4_fits_272 : decode cX4_fits 272 = .ok (.iconst 4, 1) := by decide +kernel
theorem dX4_fits_273 : decode cX4_fits 273 = .ok (.isub, 1) := by decide +kernel
theorem dX4_fits_274 : decode cX4_fits 274 = .ok (.if_icmp .ne 7, 3) := by decide +kernel
theorem dX4_fits_277 : decode cX4_fits 277 = .ok (.iconst 1, 1) := by decide +kernel
theorem dX4_fits_278 : decode cX4_fits 278 = .ok (.goto 4, 3) := by decide +kernel
theorem dX4_fits_281 : decode cX4_fits 281 = .ok (.iconst 0, 1) := by decide +kernel
theorem dX4_fits_282 : decode cX4_fits 282 = .ok (.ireturn, 1) := by decide +kernel
theorem dX4_fits_283 : decode cX4_fits 283 = .ok (.iconst 0, 1) := by decide +kernel
theorem dX4_fits_284 : decode cX4_fits 284 = .ok (.ireturn, 1) := by decide +kernel
theorem dX4_resultSort_0 : decode cX4_resultSort 0 = .ok (.aload_n 0, 1) := by decide +kernel
theorem dX4_resultSort_1 : decode cX4_resultSort 1 = .ok (.getfield 25, 3) := by decide +kernel
theorem dX4_resultSort_4 : decode cX4_resultSort 4 = .ok (.aload_n 0, 1) := by decide +kernel
theorem dX4_resultSort_5 : decode cX4_resultSort 5 = .ok (.getfield 9, 3) := by decide +kernel
theorem dX4_resultSort_8 : decode cX4_resultSort 8 = .ok (.iload_n 2, 1) := by decide +kernel
theorem dX4_resultSort_9 : decode cX4_resultSort 9 = .ok (.iaload, 1) := by decide +kernel
theorem dX4_resultSort_10 : decode cX4_resultSort 10 = .ok (.invokevirtual 93, 3) := by decide +kernel
theorem dX4_resultSort_13 : decode cX4_resultSort 13 = .ok (.istore 5, 2) := by decide +kernel
theorem dX4_resultSort_15 : decode cX4_resultSort 15 = .ok (.aload_n 1, 1) := by decide +kernel
theorem dX4_resultSort_16 : decode cX4_resultSort 16 = .ok (.getfield 199, 3) := by decide +kernel
theorem dX4_resultSort_19 : decode cX4_resultSort 19 = .ok (.tableswitch 108 3 9 #[41, 57, 108, 60, 79, 86, 91], 41) := by decide +kernel
theorem dX4_resultSort_60 : decode cX4_resultSort 60 = .ok (.aload_n 0, 1) := by decide +kernel
theorem dX4_resultSort_61 : decode cX4_resultSort 61 = .ok (.getfield 25, 3) := by decide +kernel
theorem dX4_resultSort_64 : decode cX4_resultSort 64 = .ok (.aload_n 0, 1) := by decide +kernel
theorem dX4_resultSort_65 : decode cX4_resultSort 65 = .ok (.getfield 9, 3) := by decide +kernel
theorem dX4_resultSort_68 : decode cX4_resultSort 68 = .ok (.iload_n 2, 1) := by decide +kernel
theorem dX4_resultSort_69 : decode cX4_resultSort 69 = .ok (.iconst 1, 1) := by decide +kernel
theorem dX4_resultSort_70 : decode cX4_resultSort 70 = .ok (.iadd, 1) := by decide +kernel
theorem dX4_resultSort_71 : decode cX4_resultSort 71 = .ok (.iaload, 1) := by decide +kernel
theorem dX4_resultSort_72 : decode cX4_resultSort 72 = .ok (.invokevirtual 93, 3) := by decide +kernel
theorem dX4_resultSort_75 : decode cX4_resultSort 75 = .ok (.ireturn, 1) := by decide +kernel
theorem dX4_resultSort_76 : decode cX4_resultSort 76 = .ok (.iload 5, 2) := by decide +kernel
theorem dX4_resultSort_78 : decode cX4_resultSort 78 = .ok (.ireturn, 1) := by decide +kernel
theorem dX4_resultSort_79 : decode cX4_resultSort 79 = .ok (.iload 5, 2) := by decide +kernel
theorem dX4_resultSort_81 : decode cX4_resultSort 81 = .ok (.aload_n 0, 1) := by decide +kernel
theorem dX4_resultSort_82 : decode cX4_resultSort 82 = .ok (.getfield 25, 3) := by decide +kernel
theorem dX4_resultSort_85 : decode cX4_resultSort 85 = .ok (.aload_n 0, 1) := by decide +kernel
theorem dX4_resultSort_86 : decode cX4_resultSort 86 = .ok (.getfield 9, 3) := by decide +kernel
theorem dX4_resultSort_89 : decode cX4_resultSort 89 = .ok (.iload_n 2, 1) := by decide +kernel
theorem dX4_resultSort_90 : decode cX4_resultSort 90 = .ok (.iconst 1, 1) := by decide +kernel
theorem dX4_resultSort_91 : decode cX4_resultSort 91 = .ok (.iadd, 1) := by decide +kernel
theorem dX4_resultSort_92 : decode cX4_resultSort 92 = .ok (.iaload, 1) := by decide +kernel
theorem dX4_resultSort_93 : decode cX4_resultSort 93 = .ok (.invokevirtual 93, 3) := by decide +kernel
theorem dX4_resultSort_96 : decode cX4_resultSort 96 = .ok (.iadd, 1) := by decide +kernel
theorem dX4_resultSort_97 : decode cX4_resultSort 97 = .ok (.ireturn, 1) := by decide +kernel
theorem dX4_resultSort_98 : decode cX4_resultSort 98 = .ok (.iload_n 3, 1) := by decide +kernel
theorem dX4_resultSort_99 : decode cX4_resultSort 99 = .ok (.iload 4, 2) := by decide +kernel
theorem dX4_resultSort_101 : decode cX4_resultSort 101 = .ok (.isub, 1) := by decide +kernel
theorem dX4_resultSort_102 : decode cX4_resultSort 102 = .ok (.iconst 1, 1) := by decide +kernel
theorem dX4_resultSort_103 : decode cX4_resultSort 103 = .ok (.iadd, 1) := by decide +kernel
theorem dX4_resultSort_104 : decode cX4_resultSort 104 = .ok (.ireturn, 1) := by decide +kernel
theorem dX4_resultSort_105 : decode cX4_resultSort 105 = .ok (.iload 5, 2) := by decide +kernel
theorem dX4_resultSort_107 : decode cX4_resultSort 107 = .ok (.iload_n 3, 1) := by decide +kernel
theorem dX4_resultSort_108 : decode cX4_resultSort 108 = .ok (.iadd, 1) := by decide +kernel
theorem dX4_resultSort_109 : decode cX4_resultSort 109 = .ok (.ireturn, 1) := by decide +kernel
theorem dX4_resultSort_110 : decode cX4_resultSort 110 = .ok (.aload_n 1, 1) := by decide +kernel
theorem dX4_resultSort_111 : decode cX4_resultSort 111 = .ok (.getstatic 208, 3) := by decide +kernel
theorem dX4_resultSort_114 : decode cX4_resultSort 114 = .ok (.if_acmp .ne 8, 3) := by decide +kernel
theorem dX4_resultSort_117 : decode cX4_resultSort 117 = .ok (.iload 5, 2) := by decide +kernel
theorem dX4_resultSort_119 : decode cX4_resultSort 119 = .ok (.goto 7, 3) := by decide +kernel
theorem dX4_resultSort_122 : decode cX4_resultSort 122 = .ok (.iload 5, 2) := by decide +kernel
theorem dX4_resultSort_124 : decode cX4_resultSort 124 = .ok (.iconst 4, 1) := by decide +kernel
theorem dX4_resultSort_125 : decode cX4_resultSort 125 = .ok (.isub, 1) := by decide +kernel
theorem dX4_resultSort_126 : decode cX4_resultSort 126 = .ok (.ireturn, 1) := by decide +kernel
theorem dX4_resultSort_127 : decode cX4_resultSort 127 = .ok (.iconst 0, 1) := by decide +kernel
theorem dX4_resultSort_128 : decode cX4_resultSort 128 = .ok (.ireturn, 1) := by decide +kernel
theorem dX5_init_0 : decode cX5_init 0 = .ok (.aload_n 0, 1) := by decide +kernel
theorem dX5_init_1 : decode cX5_init 1 = .ok (.invokespecial 3, 3) := by decide +kernel
theorem dX5_init_4 : decode cX5_init 4 = .ok (.aload_n 0, 1) := by decide +kernel
theorem dX5_init_5 : decode cX5_init 5 = .ok (.bipush 8, 2) := by decide +kernel
theorem dX5_init_7 : decode cX5_init 7 = .ok (.newarray .int, 2) := by decide +kernel
theorem dX5_init_9 : decode cX5_init 9 = .ok (.putfield 9, 3) := by decide +kernel
theorem dX5_init_12 : decode cX5_init 12 = .ok (.aload_n 0, 1) := by decide +kernel
theorem dX5_init_13 : decode cX5_init 13 = .ok (.bipush 8, 2) := by decide +kernel
theorem dX5_init_15 : decode cX5_init 15 = .ok (.newarray .int, 2) := by decide +kernel
theorem dX5_init_17 : decode cX5_init 17 = .ok (.putfield 15, 3) := by decide +kernel
theorem dX5_init_20 : decode cX5_init 20 = .ok (.aload_n 0, 1) := by decide +kernel
theorem dX5_init_21 : decode cX5_init 21 = .ok (.bipush 12, 2) := by decide +kernel
theorem dX5_init_23 : decode cX5_init 23 = .ok (.newarray .int, 2) := by decide +kernel
theorem dX5_init_25 : decode cX5_init 25 = .ok (.putfield 18, 3) := by decide +kernel
theorem dX5_init_28 : decode cX5_init 28 = .ok (.aload_n 0, 1) := by decide +kernel
theorem dX5_init_29 : decode cX5_init 29 = .ok (.iconst 4, 1) := by decide +kernel
theorem dX5_init_30 : decode cX5_init 30 = .ok (.newarray .int, 2) := by decide +kernel
theorem dX5_init_32 : decode cX5_init 32 = .ok (.putfield 21, 3) := by decide +kernel
theorem dX5_init_35 : decode cX5_init 35 = .ok (.aload_n 0, 1) := by decide +kernel
theorem dX5_init_36 : decode cX5_init 36 = .ok (.iconst 4, 1) := by decide +kernel
theorem dX5_init_37 : decode cX5_init 37 = .ok (.newarray .int, 2) := by decide +kernel
theorem dX5_init_39 : decode cX5_init 39 = .ok (.putfield 24, 3) := by decide +kernel
theorem dX5_init_42 : decode cX5_init 42 = .ok (.aload_n 0, 1) := by decide +kernel
theorem dX5_init_43 : decode cX5_init 43 = .ok (.iconst 4, 1) := by decide +kernel
theorem dX5_init_44 : decode cX5_init 44 = .ok (.newarray .int, 2) := by decide +kernel
theorem dX5_init_46 : decode cX5_init 46 = .ok (.putfield 27, 3) := by decide +kernel
theorem dX5_init_49 : decode cX5_init 49 = .ok (.return_, 1) := by decide +kernel
theorem dX5_hasConstant_0 : decode cX5_hasConstant 0 = .ok (.iload_n 1, 1) := by decide +kernel
theorem dX5_hasConstant_1 : decode cX5_hasConstant 1 = .ok (.ifCond .lt 15, 3) := by decide +kernel
theorem dX5_hasConstant_4 : decode cX5_hasConstant 4 = .ok (.iload_n 1, 1) := by decide +kernel
theorem dX5_hasConstant_5 : decode cX5_hasConstant 5 = .ok (.aload_n 0, 1) := by decide +kernel
theorem dX5_hasConstant_6 : decode cX5_hasConstant 6 = .ok (.getfield 30, 3) := by decide +kernel
theorem dX5_hasConstant_9 : decode cX5_hasConstant 9 = .ok (.if_icmp .ge 7, 3) := by decide +kernel
theorem dX5_hasConstant_12 : decode cX5_hasConstant 12 = .ok (.iconst 1, 1) := by decide +kernel
theorem dX5_hasConstant_13 : decode cX5_hasConstant 13 = .ok (.goto 4, 3) := by decide +kernel
theorem dX5_hasConstant_16 : decode cX5_hasConstant 16 = .ok (.iconst 0, 1) := by decide +kernel
theorem dX5_hasConstant_17 : decode cX5_hasConstant 17 = .ok (.ireturn, 1) := by decide +kernel
theorem dX5_hasAssertion_0 : decode cX5_hasAssertion 0 = .ok (.iload_n 1, 1) := by decide +kernel
theorem dX5_hasAssertion_1 : decode cX5_hasAssertion 1 = .ok (.ifCond .lt 15, 3) := by decide +kernel
theorem dX5_hasAssertion_4 : decode cX5_hasAssertion 4 = .ok (.iload_n 1, 1) := by decide +kernel
theorem dX5_hasAssertion_5 : decode cX5_hasAssertion 5 = .ok (.aload_n 0, 1) := by decide +kernel
theorem dX5_hasAssertion_6 : decode cX5_hasAssertion 6 = .ok (.getfield 34, 3) := by decide +kernel
theorem dX5_hasAssertion_9 : decode cX5_hasAssertion 9 = .ok (.if_icmp .ge 7, 3) := by decide +kernel
theorem dX5_hasAssertion_12 : decode cX5_hasAssertion 12 = .ok (.iconst 1, 1) := by decide +kernel
theorem dX5_hasAssertion_13 : decode cX5_hasAssertion 13 = .ok (.goto 4, 3) := by decide +kernel
theorem dX5_hasAssertion_16 : decode cX5_hasAssertion 16 = .ok (.iconst 0, 1) := by decide +kernel
theorem dX5_hasAssertion_17 : decode cX5_hasAssertion 17 = .ok (.ireturn, 1) := by decide +kernel
theorem dX5_find_0 : decode cX5_find 0 = .ok (.iconst 0, 1) := by decide +kernel
theorem dX5_find_1 : decode cX5_find 1 = .ok (.istore_n 2, 1) := by decide +kernel
theorem dX5_find_2 : decode cX5_find 2 = .ok (.iload_n 2, 1) := by decide +kernel
theorem dX5_find_3 : decode cX5_find 3 = .ok (.aload_n 0, 1) := by decide +kernel
theorem dX5_find_4 : decode cX5_find 4 = .ok (.getfield 30, 3) := by decide +kernel
theorem dX5_find_7 : decode cX5_find 7 = .ok (.if_icmp .ge 26, 3) := by decide +kernel
theorem dX5_find_10 : decode cX5_find 10 = .ok (.aload_n 0, 1) := by decide +kernel
theorem dX5_find_11 : decode cX5_find 11 = .ok (.getfield 9, 3) := by decide +kernel
theorem dX5_find_14 : decode cX5_find 14 = .ok (.iload_n 2, 1) := by decide +kernel
theorem dX5_find_15 : decode cX5_find 15 = .ok (.iaload, 1) := by decide +kernel
theorem dX5_find_16 : decode cX5_find 16 = .ok (.iload_n 1, 1) := by decide +kernel
theorem dX5_find_17 : decode cX5_find 17 = .ok (.if_icmp .ne 10, 3) := by decide +kernel
theorem dX5_find_20 : decode cX5_find 20 = .ok (.aload_n 0, 1) := by decide +kernel
theorem dX5_find_21 : decode cX5_find 21 = .ok (.getfield 15, 3) := by decide +kernel
theorem dX5_find_24 : decode cX5_find 24 = .ok (.iload_n 2, 1) := by decide +kernel
theorem dX5_find_25 : decode cX5_find 25 = .ok (.iaload, 1) := by decide +kernel
theorem dX5_find_26 : decode cX5_find 26 = .ok (.ireturn, 1) := by decide +kernel
theorem dX5_find_27 : decode cX5_find 27 = .ok (.iinc 2 1, 3) := by decide +kernel
theorem dX5_find_30 : decode cX5_find 30 = .ok (.goto (-28), 3) := by decide +kernel
theorem dX5_find_33 : decode cX5_find 33 = .ok (.iconst (-1), 1) := by decide +kernel
theorem dX5_find_34 : decode cX5_find 34 = .ok (.ireturn, 1) := by decide +kernel
theorem dX5_declare_0 : decode cX5_declare 0 = .ok (.aload_n 0, 1) := by decide +kernel
theorem dX5_declare_1 : decode cX5_declare 1 = .ok (.getfield 30, 3) := by decide +kernel
theorem dX5_declare_4 : decode cX5_declare 4 = .ok (.bipush 8, 2) := by decide +kernel
theorem dX5_declare_6 : decode cX5_declare 6 = .ok (.if_icmp .ge 43, 3) := by decide +kernel
theorem dX5_declare_9 : decode cX5_declare 9 = .ok (.aload_n 0, 1) := by decide +kernel
theorem dX5_declare_10 : decode cX5_declare 10 = .ok (.getfield 9, 3) := by decide +kernel
theorem dX5_declare_13 : decode cX5_declare 13 = .ok (.aload_n 0, 1) := by decide +kernel
theorem dX5_declare_14 : decode cX5_declare 14 = .ok (.getfield 30, 3) := by decide +kernel
theorem dX5_declare_17 : decode cX5_declare 17 = .ok (.iload_n 1, 1) := by decide +kernel
theorem dX5_declare_18 : decode cX5_declare 18 = .ok (.iastore, 1) := by decide +kernel
theorem dX5_declare_19 : decode cX5_declare 19 = .ok (.aload_n 0, 1) := by decide +kernel
theorem dX5_declare_20 : decode cX5_declare 20 = .ok (.getfield 15, 3) := by decide +kernel
theorem dX5_declare_23 : decode cX5_declare 23 = .ok (.aload_n 0, 1) := by decide +kernel
theorem dX5_declare_24 : decode cX5_declare 24 = .ok (.getfield 30, 3) := by decide +kernel
theorem dX5_declare_27 : decode cX5_declare 27 = .ok (.iload_n 2, 1) := by decide +kernel
theorem dX5_declare_28 : decode cX5_declare 28 = .ok (.iastore, 1) := by decide +kernel
theorem dX5_declare_29 : decode cX5_declare 29 = .ok (.aload_n 0, 1) := by decide +kernel
theorem dX5_declare_30 : decode cX5_declare 30 = .ok (.dup, 1) := by decide +kernel
theorem dX5_declare_31 : decode cX5_declare 31 = .ok (.getfield 30, 3) := by decide +kernel
theorem dX5_declare_34 : decode cX5_declare 34 = .ok (.iconst 1, 1) := by decide +kernel
theorem dX5_declare_35 : decode cX5_declare 35 = .ok (.iadd, 1) := by decide +kernel
theorem dX5_declare_36 : decode cX5_declare 36 = .ok (.putfield 30, 3) := by decide +kernel
theorem dX5_declare_39 : decode cX5_declare 39 = .ok (.aload_n 0, 1) := by decide +kernel
theorem dX5_declare_40 : decode cX5_declare 40 = .ok (.dup, 1) := by decide +kernel
theorem dX5_declare_41 : decode cX5_declare 41 = .ok (.getfield 37, 3) := by decide +kernel
theorem dX5_declare_44 : decode cX5_declare 44 = .ok (.iload_n 3, 1) := by decide +kernel
theorem dX5_declare_45 : decode cX5_declare 45 = .ok (.iadd, 1) := by decide +kernel
theorem dX5_declare_46 : decode cX5_declare 46 = .ok (.putfield 37, 3) := by decide +kernel
theorem dX5_declare_49 : decode cX5_declare 49 = .ok (.aload_n 0, 1) := by decide +kernel
theorem dX5_declare_50 : decode cX5_declare 50 = .ok (.getfield 30, 3) := by decide +kernel
theorem dX5_declare_53 : decode cX5_declare 53 = .ok (.ireturn, 1) := by decide +kernel
theorem dX5_claim_0 : decode cX5_claim 0 = .ok (.aload_n 0, 1) := by decide +kernel
theorem dX5_claim_1 : decode cX5_claim 1 = .ok (.getfield 34, 3) := by decide +kernel
theorem dX5_claim_4 : decode cX5_claim 4 = .ok (.bipush 12, 2) := by decide +kernel
theorem dX5_claim_6 : decode cX5_claim 6 = .ok (.if_icmp .ge 23, 3) := by decide +kernel
theorem dX5_claim_9 : decode cX5_claim 9 = .ok (.aload_n 0, 1) := by decide +kernel
theorem dX5_claim_10 : decode cX5_claim 10 = .ok (.getfield 18, 3) := by decide +kernel
theorem dX5_claim_13 : decode cX5_claim 13 = .ok (.aload_n 0, 1) := by decide +kernel
theorem dX5_claim_14 : decode cX5_claim 14 = .ok (.getfield 34, 3) := by decide +kernel
theorem dX5_claim_17 : decode cX5_claim 17 = .ok (.iload_n 1, 1) := by decide +kernel
theorem dX5_claim_18 : decode cX5_claim 18 = .ok (.iastore, 1) := by decide +kernel
theorem dX5_claim_19 : decode cX5_claim 19 = .ok (.aload_n 0, 1) := by decide +kernel
theorem dX5_claim_20 : decode cX5_claim 20 = .ok (.dup, 1) := by decide +kernel
theorem dX5_claim_21 : decode cX5_claim 21 = .ok (.getfield 34, 3) := by decide +kernel
theorem dX5_claim_24 : decode cX5_claim 24 = .ok (.iconst 1, 1) := by decide +kernel
theorem dX5_claim_25 : decode cX5_claim 25 = .ok (.iadd, 1) := by decide +kernel
theorem dX5_claim_26 : decode cX5_claim 26 = .ok (.putfield 34, 3) := by decide +kernel
theorem dX5_claim_29 : decode cX5_claim 29 = .ok (.aload_n 0, 1) := by decide +kernel
theorem dX5_claim_30 : decode cX5_claim 30 = .ok (.getfield 34, 3) := by decide +kernel
theorem dX5_claim_33 : decode cX5_claim 33 = .ok (.ireturn, 1) := by decide +kernel
theorem dX5_open_0 : decode cX5_open 0 = .ok (.aload_n 0, 1) := by decide +kernel
theorem dX5_open_1 : decode cX5_open 1 = .ok (.getfield 40, 3) := by decide +kernel
theorem dX5_open_4 : decode cX5_open 4 = .ok (.iconst 4, 1) := by decide +kernel
theorem dX5_open_5 : decode cX5_open 5 = .ok (.if_icmp .ge 52, 3) := by decide +kernel
theorem dX5_open_8 : decode cX5_open 8 = .ok (.aload_n 0, 1) := by decide +kernel
theorem dX5_open_9 : decode cX5_open 9 = .ok (.getfield 21, 3) := by decide +kernel
theorem dX5_open_12 : decode cX5_open 12 = .ok (.aload_n 0, 1) := by decide +kernel
theorem dX5_open_13 : decode cX5_open 13 = .ok (.getfield 40, 3) := by decide +kernel
theorem dX5_open_16 : decode cX5_open 16 = .ok (.aload_n 0, 1) := by decide +kernel
theorem dX5_open_17 : decode cX5_open 17 = .ok (.getfield 30, 3) := by decide +kernel
theorem dX5_open_20 : decode cX5_open 20 = .ok (.iastore, 1) := by decide +kernel
theorem dX5_open_21 : decode cX5_open 21 = .ok (.aload_n 0, 1) := by decide +kernel
theorem dX5_open_22 : decode cX5_open 22 = .ok (.getfield 24, 3) := by decide +kernel
theorem dX5_open_25 : decode cX5_open 25 = .ok (.aload_n 0, 1) := by decide +kernel
theorem dX5_open_26 : decode cX5_open 26 = .ok (.getfield 40, 3) := by decide +kernel
theorem dX5_open_29 : decode cX5_open 29 = .ok (.aload_n 0, 1) := by decide +kernel
theorem dX5_open_30 : decode cX5_open 30 = .ok (.getfield 37, 3) := by decide +kernel
theorem dX5_open_33 : decode cX5_open 33 = .ok (.iastore, 1) := by decide +kernel
theorem dX5_open_34 : decode cX5_open 34 = .ok (.aload_n 0, 1) := by decide +kernel
theorem dX5_open_35 : decode cX5_open 35 = .ok (.getfield 27, 3) := by decide +kernel
theorem dX5_open_38 : decode cX5_open 38 = .ok (.aload_n 0, 1) := by decide +kernel
theorem dX5_open_39 : decode cX5_open 39 = .ok (.getfield 40, 3) := by decide +kernel
theorem dX5_open_42 : decode cX5_open 42 = .ok (.aload_n 0, 1) := by decide +kernel
theorem dX5_open_43 : decode cX5_open 43 = .ok (.getfield 34, 3) := by decide +kernel
theorem dX5_open_46 : decode cX5_open 46 = .ok (.iastore, 1) := by decide +kernel
theorem dX5_open_47 : decode cX5_open 47 = .ok (.aload_n 0, 1) := by decide +kernel
theorem dX5_open_48 : decode cX5_open 48 = .ok (.dup, 1) := by decide +kernel
theorem dX5_open_49 : decode cX5_open 49 = .ok (.getfield 40, 3) := by decide +kernel
theorem dX5_open_52 : decode cX5_open 52 = .ok (.iconst 1, 1) := by decide +kernel
theorem dX5_open_53 : decode cX5_open 53 = .ok (.iadd, 1) := by decide +kernel
theorem dX5_open_54 : decode cX5_open 54 = .ok (.putfield 40, 3) := by decide +kernel
theorem dX5_open_57 : decode cX5_open 57 = .ok (.aload_n 0, 1) := by decide +kernel
theorem dX5_open_58 : decode cX5_open 58 = .ok (.getfield 40, 3) := by decide +kernel
theorem dX5_open_61 : decode cX5_open 61 = .ok (.ireturn, 1) := by decide +kernel
theorem dX5_close_0 : decode cX5_close 0 = .ok (.aload_n 0, 1) := by decide +kernel
theorem dX5_close_1 : decode cX5_close 1 = .ok (.getfield 40, 3) := by decide +kernel
theorem dX5_close_4 : decode cX5_close 4 = .ok (.ifCond .le 52, 3) := by decide +kernel
theorem dX5_close_7 : decode cX5_close 7 = .ok (.aload_n 0, 1) := by decide +kernel
theorem dX5_close_8 : decode cX5_close 8 = .ok (.dup, 1) := by decide +kernel
theorem dX5_close_9 : decode cX5_close 9 = .ok (.getfield 40, 3) := by decide +kernel
theorem dX5_close_12 : decode cX5_close 12 = .ok (.iconst 1, 1) := by decide +kernel
theorem dX5_close_13 : decode cX5_close 13 = .ok (.isub, 1) := by decide +kernel
theorem dX5_close_14 : decode cX5_close 14 = .ok (.putfield 40, 3) := by decide +kernel
theorem dX5_close_17 : decode cX5_close 17 = .ok (.aload_n 0, 1) := by decide +kernel
theorem dX5_close_18 : decode cX5_close 18 = .ok (.aload_n 0, 1) := by decide +kernel
theorem dX5_close_19 : decode cX5_close 19 = .ok (.getfield 21, 3) := by decide +kernel
theorem dX5_close_22 : decode cX5_close 22 = .ok (.aload_n 0, 1) := by decide +kernel
theorem dX5_close_23 : decode cX5_close 23 = .ok (.getfield 40, 3) := by decide +kernel
theorem dX5_close_26 : decode cX5_close 26 = .ok (.iaload, 1) := by decide +kernel
theorem dX5_close_27 : decode cX5_close 27 = .ok (.putfield 30, 3) := by decide +kernel
theorem dX5_close_30 : decode cX5_close 30 = .ok (.aload_n 0, 1) := by decide +kernel
theorem dX5_close_31 : decode cX5_close 31 = .ok (.aload_n 0, 1) := by decide +kernel
theorem dX5_close_32 : decode cX5_close 32 = .ok (.getfield 24, 3) := by decide +kernel
theorem dX5_close_35 : decode cX5_close 35 = .ok (.aload_n 0, 1) := by decide +kernel
theorem dX5_close_36 : decode cX5_close 36 = .ok (.getfield 40, 3) := by decide +kernel
theorem dX5_close_39 : decode cX5_close 39 = .ok (.iaload, 1) := by decide +kernel
theorem dX5_close_40 : decode cX5_close 40 = .ok (.putfield 37, 3) := by decide +kernel
theorem dX5_close_43 : decode cX5_close 43 = .ok (.aload_n 0, 1) := by decide +kernel
theorem dX5_close_44 : decode cX5_close 44 = .ok (.aload_n 0, 1) := by decide +kernel
theorem dX5_close_45 : decode cX5_close 45 = .ok (.getfield 27, 3) := by decide +kernel
theorem dX5_close_48 : decode cX5_close 48 = .ok (.aload_n 0, 1) := by decide +kernel
theorem dX5_close_49 : decode cX5_close 49 = .ok (.getfield 40, 3) := by decide +kernel
theorem dX5_close_52 : decode cX5_close 52 = .ok (.iaload, 1) := by decide +kernel
theorem dX5_close_53 : decode cX5_close 53 = .ok (.putfield 34, 3) := by decide +kernel
theorem dX5_close_56 : decode cX5_close 56 = .ok (.aload_n 0, 1) := by decide +kernel
theorem dX5_close_57 : decode cX5_close 57 = .ok (.getfield 40, 3) := by decide +kernel
theorem dX5_close_60 : decode cX5_close 60 = .ok (.ireturn, 1) := by decide +kernel
theorem dX6_init_0 : decode cX6_init 0 = .ok (.aload_n 0, 1) := by decide +kernel
theorem dX6_init_1 : decode cX6_init 1 = .ok (.invokespecial 3, 3) := by decide +kernel
theorem dX6_init_4 : decode cX6_init 4 = .ok (.aload_n 0, 1) := by decide +kernel
theorem dX6_init_5 : decode cX6_init 5 = .ok (.new 9, 3) := by decide +kernel
theorem dX6_init_8 : decode cX6_init 8 = .ok (.dup, 1) := by decide +kernel
theorem dX6_init_9 : decode cX6_init 9 = .ok (.invokespecial 11, 3) := by decide +kernel
theorem dX6_init_12 : decode cX6_init 12 = .ok (.putfield 12, 3) := by decide +kernel
theorem dX6_init_15 : decode cX6_init 15 = .ok (.aload_n 0, 1) := by decide +kernel
theorem dX6_init_16 : decode cX6_init 16 = .ok (.bipush 8, 2) := by decide +kernel
theorem dX6_init_18 : decode cX6_init 18 = .ok (.newarray .int, 2) := by decide +kernel
theorem dX6_init_20 : decode cX6_init 20 = .ok (.putfield 18, 3) := by decide +kernel
theorem dX6_init_23 : decode cX6_init 23 = .ok (.aload_n 0, 1) := by decide +kernel
theorem dX6_init_24 : decode cX6_init 24 = .ok (.sipush 1065, 3) := by decide +kernel
theorem dX6_init_27 : decode cX6_init 27 = .ok (.newarray .boolean, 2) := by decide +kernel
theorem dX6_init_29 : decode cX6_init 29 = .ok (.putfield 22, 3) := by decide +kernel
theorem dX6_init_32 : decode cX6_init 32 = .ok (.aload_n 0, 1) := by decide +kernel
theorem dX6_init_33 : decode cX6_init 33 = .ok (.sipush 1065, 3) := by decide +kernel
theorem dX6_init_36 : decode cX6_init 36 = .ok (.newarray .int, 2) := by decide +kernel
theorem dX6_init_38 : decode cX6_init 38 = .ok (.putfield 26, 3) := by decide +kernel
theorem dX6_init_41 : decode cX6_init 41 = .ok (.aload_n 0, 1) := by decide +kernel
theorem dX6_init_42 : decode cX6_init 42 = .ok (.sipush 1065, 3) := by decide +kernel
theorem dX6_init_45 : decode cX6_init 45 = .ok (.newarray .int, 2) := by decide +kernel
theorem dX6_init_47 : decode cX6_init 47 = .ok (.putfield 29, 3) := by decide +kernel
theorem dX6_init_50 : decode cX6_init 50 = .ok (.aload_n 0, 1) := by decide +kernel
theorem dX6_init_51 : decode cX6_init 51 = .ok (.sipush 1065, 3) := by decide +kernel
theorem dX6_init_54 : decode cX6_init 54 = .ok (.newarray .int, 2) := by decide +kernel
theorem dX6_init_56 : decode cX6_init 56 = .ok (.putfield 32, 3) := by decide +kernel
theorem dX6_init_59 : decode cX6_init 59 = .ok (.aload_n 0, 1) := by decide +kernel
theorem dX6_init_60 : decode cX6_init 60 = .ok (.sipush 1065, 3) := by decide +kernel
theorem dX6_init_63 : decode cX6_init 63 = .ok (.newarray .int, 2) := by decide +kernel
theorem dX6_init_65 : decode cX6_init 65 = .ok (.putfield 35, 3) := by decide +kernel
theorem dX6_init_68 : decode cX6_init 68 = .ok (.aload_n 0, 1) := by decide +kernel
theorem dX6_init_69 : decode cX6_init 69 = .ok (.bipush 8, 2) := by decide +kernel
theorem dX6_init_71 : decode cX6_init 71 = .ok (.newarray .int, 2) := by decide +kernel
theorem dX6_init_73 : decode cX6_init 73 = .ok (.putfield 38, 3) := by decide +kernel
theorem dX6_init_76 : decode cX6_init 76 = .ok (.aload_n 0, 1) := by decide +kernel
theorem dX6_init_77 : decode cX6_init 77 = .ok (.aload_n 1, 1) := by decide +kernel
theorem dX6_init_78 : decode cX6_init 78 = .ok (.putfield 41, 3) := by decide +kernel
theorem dX6_init_81 : decode cX6_init 81 = .ok (.return_, 1) := by decide +kernel
theorem dX6_forgetOrder_0 : decode cX6_forgetOrder 0 = .ok (.aload_n 0, 1) := by decide +kernel
theorem dX6_forgetOrder_1 : decode cX6_forgetOrder 1 = .ok (.iconst 0, 1) := by decide +kernel
theorem dX6_forgetOrder_2 : decode cX6_forgetOrder 2 = .ok (.putfield 45, 3) := by decide +kernel
theorem dX6_forgetOrder_5 : decode cX6_forgetOrder 5 = .ok (.return_, 1) := by decide +kernel
theorem dX6_decideNext_0 : decode cX6_decideNext 0 = .ok (.aload_n 0, 1) := by decide +kernel
theorem dX6_decideNext_1 : decode cX6_decideNext 1 = .ok (.getfield 45, 3) := by decide +kernel
theorem dX6_decideNext_4 : decode cX6_decideNext 4 = .ok (.bipush 8, 2) := by decide +kernel
theorem dX6_decideNext_6 : decode cX6_decideNext 6 = .ok (.if_icmp .ge 34, 3) := by decide +kernel
theorem dX6_decideNext_9 : decode cX6_decideNext 9 = .ok (.iload_n 1, 1) := by decide +kernel
theorem dX6_decideNext_10 : decode cX6_decideNext 10 = .ok (.iconst 1, 1) := by decide +kernel
theorem dX6_decideNext_11 : decode cX6_decideNext 11 = .ok (.if_icmp .lt 29, 3) := by decide +kernel
theorem dX6_decideNext_14 : decode cX6_decideNext 14 = .ok (.iload_n 1, 1) := by decide +kernel
theorem dX6_decideNext_15 : decode cX6_decideNext 15 = .ok (.bipush 9, 2) := by decide +kernel
theorem dX6_decideNext_17 : decode cX6_decideNext 17 = .ok (.if_icmp .ge 23, 3) := by decide +kernel
theorem dX6_decideNext_20 : decode cX6_decideNext 20 = .ok (.aload_n 0, 1) := by decide +kernel
theorem dX6_decideNext_21 : decode cX6_decideNext 21 = .ok (.getfield 18, 3) := by decide +kernel
theorem dX6_decideNext_24 : decode cX6_decideNext 24 = .ok (.aload_n 0, 1) := by decide +kernel
theorem dX6_decideNext_25 : decode cX6_decideNext 25 = .ok (.getfield 45, 3) := by decide +kernel
theorem dX6_decideNext_28 : decode cX6_decideNext 28 = .ok (.iload_n 1, 1) := by decide +kernel
theorem dX6_decideNext_29 : decode cX6_decideNext 29 = .ok (.iastore, 1) := by decide +kernel
theorem dX6_decideNext_30 : decode cX6_decideNext 30 = .ok (.aload_n 0, 1) := by decide +kernel
theorem dX6_decideNext_31 : decode cX6_decideNext 31 = .ok (.dup, 1) := by decide +kernel
theorem dX6_decideNext_32 : decode cX6_decideNext 32 = .ok (.getfield 45, 3) := by decide +kernel
theorem dX6_decideNext_35 : decode cX6_decideNext 35 = .ok (.iconst 1, 1) := by decide +kernel
theorem dX6_decideNext_36 : decode cX6_decideNext 36 = .ok (.iadd, 1) := by decide +kernel
theorem dX6_decideNext_37 : decode cX6_decideNext 37 = .ok (.putfield 45, 3) := by decide +kernel
theorem dX6_decideNext_40 : decode cX6_decideNext 40 = .ok (.return_, 1) := by decide +kernel
theorem dX6_inputs_0 : decode cX6_inputs 0 = .ok (.iconst 0, 1) := by decide +kernel
theorem dX6_inputs_1 : decode cX6_inputs 1 = .ok (.istore_n 1, 1) := by decide +kernel
theorem dX6_inputs_2 : decode cX6_inputs 2 = .ok (.iconst 0, 1) := by decide +kernel
theorem dX6_inputs_3 : decode cX6_inputs 3 = .ok (.istore_n 2, 1) := by decide +kernel
theorem dX6_inputs_4 : decode cX6_inputs 4 = .ok (.iload_n 2, 1) := by decide +kernel
theorem dX6_inputs_5 : decode cX6_inputs 5 = .ok (.bipush 8, 2) := by decide +kernel
theorem dX6_inputs_7 : decode cX6_inputs 7 = .ok (.if_icmp .ge 27, 3) := by decide +kernel
theorem dX6_inputs_10 : decode cX6_inputs 10 = .ok (.aload_n 0, 1) := by decide +kernel
theorem dX6_inputs_11 : decode cX6_inputs 11 = .ok (.getfield 26, 3) := by decide +kernel
theorem dX6_inputs_14 : decode cX6_inputs 14 = .ok (.iconst 1, 1) := by decide +kernel
theorem dX6_inputs_15 : decode cX6_inputs 15 = .ok (.iload_n 2, 1) := by decide +kernel
theorem dX6_inputs_16 : decode cX6_inputs 16 = .ok (.iadd, 1) := by decide +kernel
theorem dX6_inputs_17 : decode cX6_inputs 17 = .ok (.iaload, 1) := by decide +kernel
theorem dX6_inputs_18 : decode cX6_inputs 18 = .ok (.iconst 1, 1) := by decide +kernel
theorem dX6_inputs_19 : decode cX6_inputs 19 = .ok (.if_icmp .ne 9, 3) := by decide +kernel
theorem dX6_inputs_22 : decode cX6_inputs 22 = .ok (.iload_n 1, 1) := by decide +kernel
theorem dX6_inputs_23 : decode cX6_inputs 23 = .ok (.iconst 1, 1) := by decide +kernel
theorem dX6_inputs_24 : decode cX6_inputs 24 = .ok (.iload_n 2, 1) := by decide +kernel
theorem dX6_inputs_25 : decode cX6_inputs 25 = .ok (.ishl, 1) := by decide +kernel
theorem dX6_inputs_26 : decode cX6_inputs 26 = .ok (.ior, 1) := by decide +kernel
theorem dX6_inputs_27 : decode cX6_inputs 27 = .ok (.istore_n 1, 1) := by decide +kernel
theorem dX6_inputs_28 : decode cX6_inputs 28 = .ok (.iinc 2 1, 3) := by decide +kernel
theorem dX6_inputs_31 : decode cX6_inputs 31 = .ok (.goto (-27), 3) := by decide +kernel
theorem dX6_inputs_34 : decode cX6_inputs 34 = .ok (.iload_n 1, 1) := by decide +kernel
theorem dX6_inputs_35 : decode cX6_inputs 35 = .ok (.ireturn, 1) := by decide +kernel
theorem dX6_canHold_0 : decode cX6_canHold 0 = .ok (.aload_n 0, 1) := by decide +kernel
theorem dX6_canHold_1 : decode cX6_canHold 1 = .ok (.invokevirtual 49, 3) := by decide +kernel
theorem dX6_canHold_4 : decode cX6_canHold 4 = .ok (.iconst 0, 1) := by decide +kernel
theorem dX6_canHold_5 : decode cX6_canHold 5 = .ok (.istore_n 3, 1) := by decide +kernel
theorem dX6_canHold_6 : decode cX6_canHold 6 = .ok (.iload_n 3, 1) := by decide +kernel
theorem dX6_canHold_7 : decode cX6_canHold 7 = .ok (.aload_n 1, 1) := by decide +kernel
theorem dX6_canHold_8 : decode cX6_canHold 8 = .ok (.arraylength, 1) := by decide +kernel
theorem dX6_canHold_9 : decode cX6_canHold 9 = .ok (.if_icmp .ge 59, 3) := by decide +kernel
theorem dX6_canHold_12 : decode cX6_canHold 12 = .ok (.iload_n 2, 1) := by decide +kernel
theorem dX6_canHold_13 : decode cX6_canHold 13 = .ok (.iload_n 3, 1) := by decide +kernel
theorem dX6_canHold_14 : decode cX6_canHold 14 = .ok (.ishr, 1) := by decide +kernel
theorem dX6_canHold_15 : decode cX6_canHold 15 = .ok (.iconst 1, 1) := by decide +kernel
theorem dX6_canHold_16 : decode cX6_canHold 16 = .ok (.iand, 1) := by decide +kernel
theorem dX6_canHold_17 : decode cX6_canHold 17 = .ok (.iconst 1, 1) := by decide +kernel
theorem dX6_canHold_18 : decode cX6_canHold 18 = .ok (.if_icmp .ne 44, 3) := by decide +kernel
theorem dX6_canHold_21 : decode cX6_canHold 21 = .ok (.aload_n 0, 1) := by decide +kernel
theorem dX6_canHold_22 : decode cX6_canHold 22 = .ok (.aload_n 1, 1) := by decide +kernel
theorem dX6_canHold_23 : decode cX6_canHold 23 = .ok (.iload_n 3, 1) := by decide +kernel
theorem dX6_canHold_24 : decode cX6_canHold 24 = .ok (.iaload, 1) := by decide +kernel
theorem dX6_canHold_25 : decode cX6_canHold 25 = .ok (.invokevirtual 52, 3) := by decide +kernel
theorem dX6_canHold_28 : decode cX6_canHold 28 = .ok (.istore 4, 2) := by decide +kernel
theorem dX6_canHold_30 : decode cX6_canHold 30 = .ok (.iload 4, 2) := by decide +kernel
theorem dX6_canHold_32 : decode cX6_canHold 32 = .ok (.ifCond .ne 5, 3) := by decide +kernel
theorem dX6_canHold_35 : decode cX6_canHold 35 = .ok (.iconst 0, 1) := by decide +kernel
theorem dX6_canHold_36 : decode cX6_canHold 36 = .ok (.ireturn, 1) := by decide +kernel
theorem dX6_canHold_37 : decode cX6_canHold 37 = .ok (.iload 4, 2) := by decide +kernel
theorem dX6_canHold_39 : decode cX6_canHold 39 = .ok (.iconst 2, 1) := by decide +kernel
theorem dX6_canHold_40 : decode cX6_canHold 40 = .ok (.if_icmp .ne 22, 3) := by decide +kernel
theorem dX6_canHold_43 : decode cX6_canHold 43 = .ok (.aload_n 0, 1) := by decide +kernel
theorem dX6_canHold_44 : decode cX6_canHold 44 = .ok (.aload_n 1, 1) := by decide +kernel
theorem dX6_canHold_45 : decode cX6_canHold 45 = .ok (.iload_n 3, 1) := by decide +kernel
theorem dX6_canHold_46 : decode cX6_canHold 46 = .ok (.iaload, 1) := by decide +kernel
theorem dX6_canHold_47 : decode cX6_canHold 47 = .ok (.iconst (-1), 1) := by decide +kernel
theorem dX6_canHold_48 : decode cX6_canHold 48 = .ok (.invokevirtual 56, 3) := by decide +kernel
theorem dX6_canHold_51 : decode cX6_canHold 51 = .ok (.aload_n 0, 1) := by decide +kernel
theorem dX6_canHold_52 : decode cX6_canHold 52 = .ok (.getfield 22, 3) := by decide +kernel
theorem dX6_canHold_55 : decode cX6_canHold 55 = .ok (.aload_n 1, 1) := by decide +kernel
theorem dX6_canHold_56 : decode cX6_canHold 56 = .ok (.iload_n 3, 1) := by decide +kernel
theorem dX6_canHold_57 : decode cX6_canHold 57 = .ok (.iaload, 1) := by decide +kernel
theorem dX6_canHold_58 : decode cX6_canHold 58 = .ok (.iconst 1, 1) := by decide +kernel
theorem dX6_canHold_59 : decode cX6_canHold 59 = .ok (.ishr, 1) := by decide +kernel
theorem dX6_canHold_60 : decode cX6_canHold 60 = .ok (.iconst 1, 1) := by decide +kernel
theorem dX6_canHold_61 : decode cX6_canHold 61 = .ok (.bastore, 1) := by decide +kernel
theorem dX6_canHold_62 : decode cX6_canHold 62 = .ok (.iinc 3 1, 3) := by decide +kernel
theorem dX6_canHold_65 : decode cX6_canHold 65 = .ok (.goto (-59), 3) := by decide +kernel
theorem dX6_canHold_68 : decode cX6_canHold 68 = .ok (.aload_n 0, 1) := by decide +kernel
theorem dX6_canHold_69 : decode cX6_canHold 69 = .ok (.invokevirtual 60, 3) := by decide +kernel
theorem dX6_canHold_72 : decode cX6_canHold 72 = .ok (.iconst 0, 1) := by decide +kernel
theorem dX6_canHold_73 : decode cX6_canHold 73 = .ok (.istore_n 3, 1) := by decide +kernel
theorem dX6_canHold_74 : decode cX6_canHold 74 = .ok (.iload_n 3, 1) := by decide +kernel
theorem dX6_canHold_75 : decode cX6_canHold 75 = .ok (.ldc 63, 2) := by decide +kernel
theorem dX6_canHold_77 : decode cX6_canHold 77 = .ok (.if_icmp .ge 41, 3) := by decide +kernel
theorem dX6_canHold_80 : decode cX6_canHold 80 = .ok (.aload_n 0, 1) := by decide +kernel
theorem dX6_canHold_81 : decode cX6_canHold 81 = .ok (.invokevirtual 64, 3) := by decide +kernel
theorem dX6_canHold_84 : decode cX6_canHold 84 = .ok (.istore 4, 2) := by decide +kernel
theorem dX6_canHold_86 : decode cX6_canHold 86 = .ok (.iload 4, 2) := by decide +kernel
theorem dX6_canHold_88 : decode cX6_canHold 88 = .ok (.iconst (-1), 1) := by decide +kernel
theorem dX6_canHold_89 : decode cX6_canHold 89 = .ok (.if_icmp .ne 12, 3) := by decide +kernel
theorem dX6_canHold_92 : decode cX6_canHold 92 = .ok (.aload_n 0, 1) := by decide +kernel
theorem dX6_canHold_93 : decode cX6_canHold 93 = .ok (.invokevirtual 68, 3) := by decide +kernel
theorem dX6_canHold_96 : decode cX6_canHold 96 = .ok (.ifCond .ne 16, 3) := by decide +kernel
theorem dX6_canHold_99 : decode cX6_canHold 99 = .ok (.iconst 1, 1) := by decide +kernel
theorem dX6_canHold_100 : decode cX6_canHold 100 = .ok (.ireturn, 1) := by decide +kernel
theorem dX6_canHold_101 : decode cX6_canHold 101 = .ok (.aload_n 0, 1) := by decide +kernel
theorem dX6_canHold_102 : decode cX6_canHold 102 = .ok (.iload 4, 2) := by decide +kernel
theorem dX6_canHold_104 : decode cX6_canHold 104 = .ok (.invokevirtual 72, 3) := by decide +kernel
theorem dX6_canHold_107 : decode cX6_canHold 107 = .ok (.ifCond .ne 5, 3) := by decide +kernel
theorem dX6_canHold_110 : decode cX6_canHold 110 = .ok (.iconst 0, 1) := by decide +kernel
theorem dX6_canHold_111 : decode cX6_canHold 111 = .ok (.ireturn, 1) := by decide +kernel
theorem dX6_canHold_112 : decode cX6_canHold 112 = .ok (.iinc 3 1, 3) := by decide +kernel
theorem dX6_canHold_115 : decode cX6_canHold 115 = .ok (.goto (-41), 3) := by decide +kernel
theorem dX6_canHold_118 : decode cX6_canHold 118 = .ok (.iconst 0, 1) := by decide +kernel
theorem dX6_canHold_119 : decode cX6_canHold 119 = .ok (.ireturn, 1) := by decide +kernel
theorem dX6_begin_0 : decode cX6_begin 0 = .ok (.aload_n 0, 1) := by decide +kernel
theorem dX6_begin_1 : decode cX6_begin 1 = .ok (.getfield 12, 3) := by decide +kernel
theorem dX6_begin_4 : decode cX6_begin 4 = .ok (.aload_n 0, 1) := by decide +kernel
theorem dX6_begin_5 : decode cX6_begin 5 = .ok (.getfield 41, 3) := by decide +kernel
theorem dX6_begin_8 : decode cX6_begin 8 = .ok (.getfield 76, 3) := by decide +kernel
theorem dX6_begin_11 : decode cX6_begin 11 = .ok (.invokevirtual 81, 3) := by decide +kernel
theorem dX6_begin_14 : decode cX6_begin 14 = .ok (.iconst 0, 1) := by decide +kernel
theorem dX6_begin_15 : decode cX6_begin 15 = .ok (.istore_n 1, 1) := by decide +kernel
theorem dX6_begin_16 : decode cX6_begin 16 = .ok (.iload_n 1, 1) := by decide +kernel
theorem dX6_begin_17 : decode cX6_begin 17 = .ok (.aload_n 0, 1) := by decide +kernel
theorem dX6_begin_18 : decode cX6_begin 18 = .ok (.getfield 41, 3) := by decide +kernel
theorem dX6_begin_21 : decode cX6_begin 21 = .ok (.getfield 76, 3) := by decide +kernel
theorem dX6_begin_24 : decode cX6_begin 24 = .ok (.if_icmp .ge 30, 3) := by decide +kernel
theorem dX6_begin_27 : decode cX6_begin 27 = .ok (.iload_n 1, 1) := by decide +kernel
theorem dX6_begin_28 : decode cX6_begin 28 = .ok (.sipush 1065, 3) := by decide +kernel
theorem dX6_begin_31 : decode cX6_begin 31 = .ok (.if_icmp .ge 23, 3) := by decide +kernel
theorem dX6_begin_34 : decode cX6_begin 34 = .ok (.aload_n 0, 1) := by decide +kernel
theorem dX6_begin_35 : decode cX6_begin 35 = .ok (.getfield 26, 3) := by decide +kernel
theorem dX6_begin_38 : decode cX6_begin 38 = .ok (.iload_n 1, 1) := by decide +kernel
theorem dX6_begin_39 : decode cX6_begin 39 = .ok (.iconst 2, 1) := by decide +kernel
theorem dX6_begin_40 : decode cX6_begin 40 = .ok (.iastore, 1) := by decide +kernel
theorem dX6_begin_41 : decode cX6_begin 41 = .ok (.aload_n 0, 1) := by decide +kernel
theorem dX6_begin_42 : decode cX6_begin 42 = .ok (.getfield 22, 3) := by decide +kernel
theorem dX6_begin_45 : decode cX6_begin 45 = .ok (.iload_n 1, 1) := by decide +kernel
theorem dX6_begin_46 : decode cX6_begin 46 = .ok (.iconst 0, 1) := by decide +kernel
theorem dX6_begin_47 : decode cX6_begin 47 = .ok (.bastore, 1) := by decide +kernel
theorem dX6_begin_48 : decode cX6_begin 48 = .ok (.iinc 1 1, 3) := by decide +kernel
theorem dX6_begin_51 : decode cX6_begin 51 = .ok (.goto (-35), 3) := by decide +kernel
theorem dX6_begin_54 : decode cX6_begin 54 = .ok (.aload_n 0, 1) := by decide +kernel
theorem dX6_begin_55 : decode cX6_begin 55 = .ok (.getfield 26, 3) := by decide +kernel
theorem dX6_begin_58 : decode cX6_begin 58 = .ok (.iconst 0, 1) := by decide +kernel
theorem dX6_begin_59 : decode cX6_begin 59 = .ok (.iconst 1, 1) := by decide +kernel
theorem dX6_begin_60 : decode cX6_begin 60 = .ok (.iastore, 1) := by decide +kernel
theorem dX6_begin_61 : decode cX6_begin 61 = .ok (.aload_n 0, 1) := by decide +kernel
theorem dX6_begin_62 : decode cX6_begin 62 = .ok (.iconst 0, 1) := by decide +kernel
theorem dX6_begin_63 : decode cX6_begin 63 = .ok (.putfield 85, 3) := by decide +kernel
theorem dX6_begin_66 : decode cX6_begin 66 = .ok (.aload_n 0, 1) := by decide +kernel
theorem dX6_begin_67 : decode cX6_begin 67 = .ok (.iconst 0, 1) := by decide +kernel
theorem dX6_begin_68 : decode cX6_begin 68 = .ok (.putfield 88, 3) := by decide +kernel
theorem dX6_begin_71 : decode cX6_begin 71 = .ok (.aload_n 0, 1) := by decide +kernel
theorem dX6_begin_72 : decode cX6_begin 72 = .ok (.iconst 0, 1) := by decide +kernel
theorem dX6_begin_73 : decode cX6_begin 73 = .ok (.putfield 91, 3) := by decide +kernel
theorem dX6_begin_76 : decode cX6_begin 76 = .ok (.return_, 1) := by decide +kernel
theorem dX6_truthOf_0 : decode cX6_truthOf 0 = .ok (.aload_n 0, 1) := by decide +kernel
theorem dX6_truthOf_1 : decode cX6_truthOf 1 = .ok (.getfield 26, 3) := by decide +kernel
theorem dX6_truthOf_4 : decode cX6_truthOf 4 = .ok (.iload_n 1, 1) := by decide +kernel
theorem dX6_truthOf_5 : decode cX6_truthOf 5 = .ok (.iconst 1, 1) := by decide +kernel
theorem dX6_truthOf_6 : decode cX6_truthOf 6 = .ok (.ishr, 1) := by decide +kernel
theorem dX6_truthOf_7 : decode cX6_truthOf 7 = .ok (.iaload, 1) := by decide +kernel
theorem dX6_truthOf_8 : decode cX6_truthOf 8 = .ok (.istore_n 2, 1) := by decide +kernel
theorem dX6_truthOf_9 : decode cX6_truthOf 9 = .ok (.iload_n 2, 1) := by decide +kernel
theorem dX6_truthOf_10 : decode cX6_truthOf 10 = .ok (.iconst 2, 1) := by decide +kernel
theorem dX6_truthOf_11 : decode cX6_truthOf 11 = .ok (.if_icmp .ne 7, 3) := by decide +kernel
theorem dX6_truthOf_14 : decode cX6_truthOf 14 = .ok (.iconst 2, 1) := by decide +kernel
theorem dX6_truthOf_15 : decode cX6_truthOf 15 = .ok (.goto 8, 3) := by decide +kernel
theorem dX6_truthOf_18 : decode cX6_truthOf 18 = .ok (.iload_n 2, 1) := by decide +kernel
theorem dX6_truthOf_19 : decode cX6_truthOf 19 = .ok (.iload_n 1, 1) := by decide +kernel
theorem dX6_truthOf_20 : decode cX6_truthOf 20 = .ok (.iconst 1, 1) := by decide +kernel
theorem dX6_truthOf_21 : decode cX6_truthOf 21 = .ok (.iand, 1) := by decide +kernel
theorem dX6_truthOf_22 : decode cX6_truthOf 22 = .ok (.ixor, 1) := by decide +kernel
theorem dX6_truthOf_23 : decode cX6_truthOf 23 = .ok (.ireturn, 1) := by decide +kernel
theorem dX6_assign_0 : decode cX6_assign 0 = .ok (.iload_n 1, 1) := by decide +kernel
theorem dX6_assign_1 : decode cX6_assign 1 = .ok (.iconst 1, 1) := by decide +kernel
theorem dX6_assign_2 : decode cX6_assign 2 = .ok (.ishr, 1) := by decide +kernel
theorem dX6_assign_3 : decode cX6_assign 3 = .ok (.istore_n 3, 1) := by decide +kernel
theorem dX6_assign_4 : decode cX6_assign 4 = .ok (.aload_n 0, 1) := by decide +kernel
theorem dX6_assign_5 : decode cX6_assign 5 = .ok (.getfield 85, 3) := by decide +kernel
theorem dX6_assign_8 : decode cX6_assign 8 = .ok (.sipush 1065, 3) := by decide +kernel
theorem dX6_assign_11 : decode cX6_assign 11 = .ok (.if_icmp .ge 51, 3) := by decide +kernel
theorem dX6_assign_14 : decode cX6_assign 14 = .ok (.aload_n 0, 1) := by decide +kernel
theorem dX6_assign_15 : decode cX6_assign 15 = .ok (.getfield 26, 3) := by decide +kernel
theorem dX6_assign_18 : decode cX6_assign 18 = .ok (.iload_n 3, 1) := by decide +kernel
theorem dX6_assign_19 : decode cX6_assign 19 = .ok (.iconst 1, 1) := by decide +kernel
theorem dX6_assign_20 : decode cX6_assign 20 = .ok (.iload_n 1, 1) := by decide +kernel
theorem dX6_assign_21 : decode cX6_assign 21 = .ok (.iconst 1, 1) := by decide +kernel
theorem dX6_assign_22 : decode cX6_assign 22 = .ok (.iand, 1) := by decide +kernel
theorem dX6_assign_23 : decode cX6_assign 23 = .ok (.ixor, 1) := by decide +kernel
theorem dX6_assign_24 : decode cX6_assign 24 = .ok (.iastore, 1) := by decide +kernel
theorem dX6_assign_25 : decode cX6_assign 25 = .ok (.aload_n 0, 1) := by decide +kernel
theorem dX6_assign_26 : decode cX6_assign 26 = .ok (.getfield 29, 3) := by decide +kernel
theorem dX6_assign_29 : decode cX6_assign 29 = .ok (.iload_n 3, 1) := by decide +kernel
theorem dX6_assign_30 : decode cX6_assign 30 = .ok (.aload_n 0, 1) := by decide +kernel
theorem dX6_assign_31 : decode cX6_assign 31 = .ok (.getfield 91, 3) := by decide +kernel
theorem dX6_assign_34 : decode cX6_assign 34 = .ok (.iastore, 1) := by decide +kernel
theorem dX6_assign_35 : decode cX6_assign 35 = .ok (.aload_n 0, 1) := by decide +kernel
theorem dX6_assign_36 : decode cX6_assign 36 = .ok (.getfield 32, 3) := by decide +kernel
theorem dX6_assign_39 : decode cX6_assign 39 = .ok (.iload_n 3, 1) := by decide +kernel
theorem dX6_assign_40 : decode cX6_assign 40 = .ok (.iload_n 2, 1) := by decide +kernel
theorem dX6_assign_41 : decode cX6_assign 41 = .ok (.iastore, 1) := by decide +kernel
theorem dX6_assign_42 : decode cX6_assign 42 = .ok (.aload_n 0, 1) := by decide +kernel
theorem dX6_assign_43 : decode cX6_assign 43 = .ok (.getfield 35, 3) := by decide +kernel
theorem dX6_assign_46 : decode cX6_assign 46 = .ok (.aload_n 0, 1) := by decide +kernel
theorem dX6_assign_47 : decode cX6_assign 47 = .ok (.getfield 85, 3) := by decide +kernel
theorem dX6_assign_50 : decode cX6_assign 50 = .ok (.iload_n 1, 1) := by decide +kernel
theorem dX6_assign_51 : decode cX6_assign 51 = .ok (.iastore, 1) := by decide +kernel
theorem dX6_assign_52 : decode cX6_assign 52 = .ok (.aload_n 0, 1) := by decide +kernel
theorem dX6_assign_53 : decode cX6_assign 53 = .ok (.dup, 1) := by decide +kernel
theorem dX6_assign_54 : decode cX6_assign 54 = .ok (.getfield 85, 3) := by decide +kernel
theorem dX6_assign_57 : decode cX6_assign 57 = .ok (.iconst 1, 1) := by decide +kernel
theorem dX6_assign_58 : decode cX6_assign 58 = .ok (.iadd, 1) := by decide +kernel
theorem dX6_assign_59 : decode cX6_assign 59 = .ok (.putfield 85, 3) := by decide +kernel
theorem dX6_assign_62 : decode cX6_assign 62 = .ok (.return_, 1) := by decide +kernel
theorem dX6_loadMarked_0 : decode cX6_loadMarked 0 = .ok (.aload_n 0, 1) := by decide +kernel
theorem dX6_loadMarked_1 : decode cX6_loadMarked 1 = .ok (.getfield 41, 3) := by decide +kernel
theorem dX6_loadMarked_4 : decode cX6_loadMarked 4 = .ok (.getfield 76, 3) := by decide +kernel
theorem dX6_loadMarked_7 : decode cX6_loadMarked 7 = .ok (.iconst 1, 1) := by decide +kernel
theorem dX6_loadMarked_8 : decode cX6_loadMarked 8 = .ok (.isub, 1) := by decide +kernel
theorem dX6_loadMarked_9 : decode cX6_loadMarked 9 = .ok (.istore_n 1, 1) := by decide +kernel
theorem dX6_loadMarked_10 : decode cX6_loadMarked 10 = .ok (.iload_n 1, 1) := by decide +kernel
theorem dX6_loadMarked_11 : decode cX6_loadMarked 11 = .ok (.bipush 9, 2) := by decide +kernel
theorem dX6_loadMarked_13 : decode cX6_loadMarked 13 = .ok (.if_icmp .lt 107, 3) := by decide +kernel
theorem dX6_loadMarked_16 : decode cX6_loadMarked 16 = .ok (.aload_n 0, 1) := by decide +kernel
theorem dX6_loadMarked_17 : decode cX6_loadMarked 17 = .ok (.getfield 22, 3) := by decide +kernel
theorem dX6_loadMarked_20 : decode cX6_loadMarked 20 = .ok (.iload_n 1, 1) := by decide +kernel
theorem dX6_loadMarked_21 : decode cX6_loadMarked 21 = .ok (.baload, 1) := by decide +kernel
theorem dX6_loadMarked_22 : decode cX6_loadMarked 22 = .ok (.ifCond .eq 92, 3) := by decide +kernel
theorem dX6_loadMarked_25 : decode cX6_loadMarked 25 = .ok (.aload_n 0, 1) := by decide +kernel
theorem dX6_loadMarked_26 : decode cX6_loadMarked 26 = .ok (.getfield 22, 3) := by decide +kernel
theorem dX6_loadMarked_29 : decode cX6_loadMarked 29 = .ok (.iload_n 1, 1) := by decide +kernel
theorem dX6_loadMarked_30 : decode cX6_loadMarked 30 = .ok (.iconst 0, 1) := by decide +kernel
theorem dX6_loadMarked_31 : decode cX6_loadMarked 31 = .ok (.bastore, 1) := by decide +kernel
theorem dX6_loadMarked_32 : decode cX6_loadMarked 32 = .ok (.aload_n 0, 1) := by decide +kernel
theorem dX6_loadMarked_33 : decode cX6_loadMarked 33 = .ok (.getfield 41, 3) := by decide +kernel
theorem dX6_loadMarked_36 : decode cX6_loadMarked 36 = .ok (.getfield 94, 3) := by decide +kernel
theorem dX6_loadMarked_39 : decode cX6_loadMarked 39 = .ok (.iload_n 1, 1) := by decide +kernel
theorem dX6_loadMarked_40 : decode cX6_loadMarked 40 = .ok (.iaload, 1) := by decide +kernel
theorem dX6_loadMarked_41 : decode cX6_loadMarked 41 = .ok (.istore_n 2, 1) := by decide +kernel
theorem dX6_loadMarked_42 : decode cX6_loadMarked 42 = .ok (.aload_n 0, 1) := by decide +kernel
theorem dX6_loadMarked_43 : decode cX6_loadMarked 43 = .ok (.getfield 41, 3) := by decide +kernel
theorem dX6_loadMarked_46 : decode cX6_loadMarked 46 = .ok (.getfield 97, 3) := by decide +kernel
theorem dX6_loadMarked_49 : decode cX6_loadMarked 49 = .ok (.iload_n 1, 1) := by decide +kernel
theorem dX6_loadMarked_50 : decode cX6_loadMarked 50 = .ok (.iaload, 1) := by decide +kernel
theorem dX6_loadMarked_51 : decode cX6_loadMarked 51 = .ok (.istore_n 3, 1) := by decide +kernel
theorem dX6_loadMarked_52 : decode cX6_loadMarked 52 = .ok (.aload_n 0, 1) := by decide +kernel
theorem dX6_loadMarked_53 : decode cX6_loadMarked 53 = .ok (.getfield 41, 3) := by decide +kernel
theorem dX6_loadMarked_56 : decode cX6_loadMarked 56 = .ok (.getfield 100, 3) := by decide +kernel
theorem dX6_loadMarked_59 : decode cX6_loadMarked 59 = .ok (.iload_n 1, 1) := by decide +kernel
theorem dX6_loadMarked_60 : decode cX6_loadMarked 60 = .ok (.iaload, 1) := by decide +kernel
theorem dX6_loadMarked_61 : decode cX6_loadMarked 61 = .ok (.istore 4, 2) := by decide +kernel
theorem dX6_loadMarked_63 : decode cX6_loadMarked 63 = .ok (.aload_n 0, 1) := by decide +kernel
theorem dX6_loadMarked_64 : decode cX6_loadMarked 64 = .ok (.getfield 22, 3) := by decide +kernel
theorem dX6_loadMarked_67 : decode cX6_loadMarked 67 = .ok (.iload_n 2, 1) := by decide +kernel
theorem dX6_loadMarked_68 : decode cX6_loadMarked 68 = .ok (.iconst 1, 1) := by decide +kernel
theorem dX6_loadMarked_69 : decode cX6_loadMarked 69 = .ok (.ishr, 1) := by decide +kernel
theorem dX6_loadMarked_70 : decode cX6_loadMarked 70 = .ok (.iconst 1, 1) := by decide +kernel
theorem dX6_loadMarked_71 : decode cX6_loadMarked 71 = .ok (.bastore, 1) := by decide +kernel
theorem dX6_loadMarked_72 : decode cX6_loadMarked 72 = .ok (.aload_n 0, 1) := by decide +kernel
theorem dX6_loadMarked_73 : decode cX6_loadMarked 73 = .ok (.getfield 22, 3) := by decide +kernel
theorem dX6_loadMarked_76 : decode cX6_loadMarked 76 = .ok (.iload_n 3, 1) := by decide +kernel
theorem dX6_loadMarked_77 : decode cX6_loadMarked 77 = .ok (.iconst 1, 1) := by decide +kernel
theorem dX6_loadMarked_78 : decode cX6_loadMarked 78 = .ok (.ishr, 1) := by decide +kernel
theorem dX6_loadMarked_79 : decode cX6_loadMarked 79 = .ok (.iconst 1, 1) := by decide +kernel
theorem dX6_loadMarked_80 : decode cX6_loadMarked 80 = .ok (.bastore, 1) := by decide +kernel
theorem dX6_loadMarked_81 : decode cX6_loadMarked 81 = .ok (.aload_n 0, 1) := by decide +kernel
theorem dX6_loadMarked_82 : decode cX6_loadMarked 82 = .ok (.getfield 22, 3) := by decide +kernel
theorem dX6_loadMarked_85 : decode cX6_loadMarked 85 = .ok (.iload 4, 2) := by decide +kernel
theorem dX6_loadMarked_87 : decode cX6_loadMarked 87 = .ok (.iconst 1, 1) := by decide +kernel
theorem dX6_loadMarked_88 : decode cX6_loadMarked 88 = .ok (.ishr, 1) := by decide +kernel
theorem dX6_loadMarked_89 : decode cX6_loadMarked 89 = .ok (.iconst 1, 1) := by decide +kernel
theorem dX6_loadMarked_90 : decode cX6_loadMarked 90 = .ok (.bastore, 1) := by decide +kernel
theorem dX6_loadMarked_91 : decode cX6_loadMarked 91 = .ok (.aload_n 0, 1) := by decide +kernel
theorem dX6_loadMarked_92 : decode cX6_loadMarked 92 = .ok (.getfield 12, 3) := by decide +kernel
theorem dX6_loadMarked_95 : decode cX6_loadMarked 95 = .ok (.aload_n 0, 1) := by decide +kernel
theorem dX6_loadMarked_96 : decode cX6_loadMarked 96 = .ok (.getfield 41, 3) := by decide +kernel
theorem dX6_loadMarked_99 : decode cX6_loadMarked 99 = .ok (.getfield 103, 3) := by decide +kernel
theorem dX6_loadMarked_102 : decode cX6_loadMarked 102 = .ok (.iload_n 1, 1) := by decide +kernel
theorem dX6_loadMarked_103 : decode cX6_loadMarked 103 = .ok (.iaload, 1) := by decide +kernel
theorem dX6_loadMarked_104 : decode cX6_loadMarked 104 = .ok (.iconst 2, 1) := by decide +kernel
theorem dX6_loadMarked_105 : decode cX6_loadMarked 105 = .ok (.iload_n 1, 1) := by decide +kernel
theorem dX6_loadMarked_106 : decode cX6_loadMarked 106 = .ok (.imul, 1) := by decide +kernel
theorem dX6_loadMarked_107 : decode cX6_loadMarked 107 = .ok (.iload_n 2, 1) := by decide +kernel
theorem dX6_loadMarked_108 : decode cX6_loadMarked 108 = .ok (.iload_n 3, 1) := by decide +kernel
theorem dX6_loadMarked_109 : decode cX6_loadMarked 109 = .ok (.iload 4, 2) := by decide +kernel
theorem dX6_loadMarked_111 : decode cX6_loadMarked 111 = .ok (.invokevirtual 106, 3) := by decide +kernel
theorem dX6_loadMarked_114 : decode cX6_loadMarked 114 = .ok (.iinc 1 (-1), 3) := by decide +kernel
theorem dX6_loadMarked_117 : decode cX6_loadMarked 117 = .ok (.goto (-107), 3) := by decide +kernel
theorem dX6_loadMarked_120 : decode cX6_loadMarked 120 = .ok (.iconst 0, 1) := by decide +kernel
theorem dX6_loadMarked_121 : decode cX6_loadMarked 121 = .ok (.istore_n 1, 1) := by decide +kernel
theorem dX6_loadMarked_122 : decode cX6_loadMarked 122 = .ok (.iload_n 1, 1) := by decide +kernel
theorem dX6_loadMarked_123 : decode cX6_loadMarked 123 = .ok (.bipush 9, 2) := by decide +kernel
theorem dX6_loadMarked_125 : decode cX6_loadMarked 125 = .ok (.if_icmp .ge 16, 3) := by decide +kernel
theorem dX6_loadMarked_128 : decode cX6_loadMarked 128 = .ok (.aload_n 0, 1) := by decide +kernel
theorem dX6_loadMarked_129 : decode cX6_loadMarked 129 = .ok (.getfield 22, 3) := by decide +kernel
theorem dX6_loadMarked_132 : decode cX6_loadMarked 132 = .ok (.iload_n 1, 1) := by decide +kernel
theorem dX6_loadMarked_133 : decode cX6_loadMarked 133 = .ok (.iconst 0, 1) := by decide +kernel
theorem dX6_loadMarked_134 : decode cX6_loadMarked 134 = .ok (.bastore, 1) := by decide +kernel
theorem dX6_loadMarked_135 : decode cX6_loadMarked 135 = .ok (.iinc 1 1, 3) := by decide +kernel
theorem dX6_loadMarked_138 : decode cX6_loadMarked 138 = .ok (.goto (-16), 3) := by decide +kernel
theorem dX6_loadMarked_141 : decode cX6_loadMarked 141 = .ok (.return_, 1) := by decide +kernel
theorem dX6_propagate_0 : decode cX6_propagate 0 = .ok (.aload_n 0, 1) := by decide +kernel
theorem dX6_propagate_1 : decode cX6_propagate 1 = .ok (.getfield 88, 3) := by decide +kernel
theorem dX6_propagate_4 : decode cX6_propagate 4 = .ok (.aload_n 0, 1) := by decide +kernel
theorem dX6_propagate_5 : decode cX6_propagate 5 = .ok (.getfield 85, 3) := by decide +kernel
theorem dX6_propagate_8 : decode cX6_propagate 8 = .ok (.if_icmp .ge 49, 3) := by decide +kernel
theorem dX6_propagate_11 : decode cX6_propagate 11 = .ok (.aload_n 0, 1) := by decide +kernel
theorem dX6_propagate_12 : decode cX6_propagate 12 = .ok (.getfield 88, 3) := by decide +kernel
theorem dX6_propagate_15 : decode cX6_propagate 15 = .ok (.sipush 1065, 3) := by decide +kernel
theorem dX6_propagate_18 : decode cX6_propagate 18 = .ok (.if_icmp .ge 39, 3) := by decide +kernel
theorem dX6_propagate_21 : decode cX6_propagate 21 = .ok (.aload_n 0, 1) := by decide +kernel
theorem dX6_propagate_22 : decode cX6_propagate 22 = .ok (.aload_n 0, 1) := by decide +kernel
theorem dX6_propagate_23 : decode cX6_propagate 23 = .ok (.getfield 35, 3) := by decide +kernel
theorem dX6_propagate_26 : decode cX6_propagate 26 = .ok (.aload_n 0, 1) := by decide +kernel
theorem dX6_propagate_27 : decode cX6_propagate 27 = .ok (.getfield 88, 3) := by decide +kernel
theorem dX6_propagate_30 : decode cX6_propagate 30 = .ok (.iaload, 1) := by decide +kernel
theorem dX6_propagate_31 : decode cX6_propagate 31 = .ok (.iconst 1, 1) := by decide +kernel
theorem dX6_propagate_32 : decode cX6_propagate 32 = .ok (.ixor, 1) := by decide +kernel
theorem dX6_propagate_33 : decode cX6_propagate 33 = .ok (.invokevirtual 110, 3) := by decide +kernel
theorem dX6_propagate_36 : decode cX6_propagate 36 = .ok (.istore_n 1, 1) := by decide +kernel
theorem dX6_propagate_37 : decode cX6_propagate 37 = .ok (.aload_n 0, 1) := by decide +kernel
theorem dX6_propagate_38 : decode cX6_propagate 38 = .ok (.dup, 1) := by decide +kernel
theorem dX6_propagate_39 : decode cX6_propagate 39 = .ok (.getfield 88, 3) := by decide +kernel
theorem dX6_propagate_42 : decode cX6_propagate 42 = .ok (.iconst 1, 1) := by decide +kernel
theorem dX6_propagate_43 : decode cX6_propagate 43 = .ok (.iadd, 1) := by decide +kernel
theorem dX6_propagate_44 : decode cX6_propagate 44 = .ok (.putfield 88, 3) := by decide +kernel
theorem dX6_propagate_47 : decode cX6_propagate 47 = .ok (.iload_n 1, 1) := by decide +kernel
theorem dX6_propagate_48 : decode cX6_propagate 48 = .ok (.iconst (-1), 1) := by decide +kernel
theorem dX6_propagate_49 : decode cX6_propagate 49 = .ok (.if_icmp .eq 5, 3) := by decide +kernel
theorem dX6_propagate_52 : decode cX6_propagate 52 = .ok (.iload_n 1, 1) := by decide +kernel
theorem dX6_propagate_53 : decode cX6_propagate 53 = .ok (.ireturn, 1) := by decide +kernel
theorem dX6_propagate_54 : decode cX6_propagate 54 = .ok (.goto (-54), 3) := by decide +kernel
theorem dX6_propagate_57 : decode cX6_propagate 57 = .ok (.iconst (-1), 1) := by decide +kernel
theorem dX6_propagate_58 : decode cX6_propagate 58 = .ok (.ireturn, 1) := by decide +kernel
theorem dX6_visit_0 : decode cX6_visit 0 = .ok (.iconst (-1), 1) := by decide +kernel
theorem dX6_visit_1 : decode cX6_visit 1 = .ok (.istore_n 2, 1) := by decide +kernel
theorem dX6_visit_2 : decode cX6_visit 2 = .ok (.aload_n 0, 1) := by decide +kernel
theorem dX6_visit_3 : decode cX6_visit 3 = .ok (.getfield 12, 3) := by decide +kernel
theorem dX6_visit_6 : decode cX6_visit 6 = .ok (.getfield 113, 3) := by decide +kernel
theorem dX6_visit_9 : decode cX6_visit 9 = .ok (.iload_n 1, 1) := by decide +kernel
theorem dX6_visit_10 : decode cX6_visit 10 = .ok (.iaload, 1) := by decide +kernel
theorem dX6_visit_11 : decode cX6_visit 11 = .ok (.istore_n 3, 1) := by decide +kernel
theorem dX6_visit_12 : decode cX6_visit 12 = .ok (.aload_n 0, 1) := by decide +kernel
theorem dX6_visit_13 : decode cX6_visit 13 = .ok (.getfield 12, 3) := by decide +kernel
theorem dX6_visit_16 : decode cX6_visit 16 = .ok (.getfield 113, 3) := by decide +kernel
theorem dX6_visit_19 : decode cX6_visit 19 = .ok (.iload_n 1, 1) := by decide +kernel
theorem dX6_visit_20 : decode cX6_visit 20 = .ok (.iconst (-1), 1) := by decide +kernel
theorem dX6_visit_21 : decode cX6_visit 21 = .ok (.iastore, 1) := by decide +kernel
theorem dX6_visit_22 : decode cX6_visit 22 = .ok (.iconst 0, 1) := by decide +kernel
theorem dX6_visit_23 : decode cX6_visit 23 = .ok (.istore 4, 2) := by decide +kernel
theorem dX6_visit_25 : decode cX6_visit 25 = .ok (.iload 4, 2) := by decide +kernel
theorem dX6_visit_27 : decode cX6_visit 27 = .ok (.sipush 9032, 3) := by decide +kernel
theorem dX6_visit_30 : decode cX6_visit 30 = .ok (.if_icmp .ge 136, 3) := by decide +kernel
theorem dX6_visit_33 : decode cX6_visit 33 = .ok (.iload_n 3, 1) := by decide +kernel
theorem dX6_visit_34 : decode cX6_visit 34 = .ok (.iconst (-1), 1) := by decide +kernel
theorem dX6_visit_35 : decode cX6_visit 35 = .ok (.if_icmp .eq 131, 3) := by decide +kernel
theorem dX6_visit_38 : decode cX6_visit 38 = .ok (.aload_n 0, 1) := by decide +kernel
theorem dX6_visit_39 : decode cX6_visit 39 = .ok (.getfield 12, 3) := by decide +kernel
theorem dX6_visit_42 : decode cX6_visit 42 = .ok (.getfield 116, 3) := by decide +kernel
theorem dX6_visit_45 : decode cX6_visit 45 = .ok (.iload_n 3, 1) := by decide +kernel
theorem dX6_visit_46 : decode cX6_visit 46 = .ok (.iaload, 1) := by decide +kernel
theorem dX6_visit_47 : decode cX6_visit 47 = .ok (.istore 5, 2) := by decide +kernel
theorem dX6_visit_49 : decode cX6_visit 49 = .ok (.aload_n 0, 1) := by decide +kernel
theorem dX6_visit_50 : decode cX6_visit 50 = .ok (.getfield 12, 3) := by decide +kernel
theorem dX6_visit_53 : decode cX6_visit 53 = .ok (.iload_n 3, 1) := by decide +kernel
