theorem dX6_visit_54 : decode cX6_visit 54 = .ok (.iconst 1, 1) := by decide +kernel
theorem dX6_visit_55 : decode cX6_visit 55 = .ok (.ixor, 1) := by decide +kernel
theorem dX6_visit_56 : decode cX6_visit 56 = .ok (.invokevirtual 119, 3) := by decide +kernel
theorem dX6_visit_59 : decode cX6_visit 59 = .ok (.istore 6, 2) := by decide +kernel
theorem dX6_visit_61 : decode cX6_visit 61 = .ok (.aload_n 0, 1) := by decide +kernel
theorem dX6_visit_62 : decode cX6_visit 62 = .ok (.iload 6, 2) := by decide +kernel
theorem dX6_visit_64 : decode cX6_visit 64 = .ok (.invokevirtual 52, 3) := by decide +kernel
theorem dX6_visit_67 : decode cX6_visit 67 = .ok (.istore 7, 2) := by decide +kernel
theorem dX6_visit_69 : decode cX6_visit 69 = .ok (.iload_n 2, 1) := by decide +kernel
theorem dX6_visit_70 : decode cX6_visit 70 = .ok (.iconst (-1), 1) := by decide +kernel
theorem dX6_visit_71 : decode cX6_visit 71 = .ok (.if_icmp .ne 9, 3) := by decide +kernel
theorem dX6_visit_74 : decode cX6_visit 74 = .ok (.iload 7, 2) := by decide +kernel
theorem dX6_visit_76 : decode cX6_visit 76 = .ok (.iconst 1, 1) := by decide +kernel
theorem dX6_visit_77 : decode cX6_visit 77 = .ok (.if_icmp .ne 7, 3) := by decide +kernel
theorem dX6_visit_80 : decode cX6_visit 80 = .ok (.iconst (-1), 1) := by decide +kernel
theorem dX6_visit_81 : decode cX6_visit 81 = .ok (.goto 10, 3) := by decide +kernel
theorem dX6_visit_84 : decode cX6_visit 84 = .ok (.aload_n 0, 1) := by decide +kernel
theorem dX6_visit_85 : decode cX6_visit 85 = .ok (.iload_n 3, 1) := by decide +kernel
theorem dX6_visit_86 : decode cX6_visit 86 = .ok (.iconst 1, 1) := by decide +kernel
theorem dX6_visit_87 : decode cX6_visit 87 = .ok (.ishr, 1) := by decide +kernel
theorem dX6_visit_88 : decode cX6_visit 88 = .ok (.invokevirtual 122, 3) := by decide +kernel
theorem dX6_visit_91 : decode cX6_visit 91 = .ok (.istore 8, 2) := by decide +kernel
theorem dX6_visit_93 : decode cX6_visit 93 = .ok (.iload 8, 2) := by decide +kernel
theorem dX6_visit_95 : decode cX6_visit 95 = .ok (.iconst (-1), 1) := by decide +kernel
theorem dX6_visit_96 : decode cX6_visit 96 = .ok (.if_icmp .eq 16, 3) := by decide +kernel
theorem dX6_visit_99 : decode cX6_visit 99 = .ok (.aload_n 0, 1) := by decide +kernel
theorem dX6_visit_100 : decode cX6_visit 100 = .ok (.getfield 12, 3) := by decide +kernel
theorem dX6_visit_103 : decode cX6_visit 103 = .ok (.iload_n 3, 1) := by decide +kernel
theorem dX6_visit_104 : decode cX6_visit 104 = .ok (.iload 8, 2) := by decide +kernel
theorem dX6_visit_106 : decode cX6_visit 106 = .ok (.invokevirtual 125, 3) := by decide +kernel
theorem dX6_visit_109 : decode cX6_visit 109 = .ok (.goto 48, 3) := by decide +kernel
theorem dX6_visit_112 : decode cX6_visit 112 = .ok (.aload_n 0, 1) := by decide +kernel
theorem dX6_visit_113 : decode cX6_visit 113 = .ok (.getfield 12, 3) := by decide +kernel
theorem dX6_visit_116 : decode cX6_visit 116 = .ok (.iload_n 3, 1) := by decide +kernel
theorem dX6_visit_117 : decode cX6_visit 117 = .ok (.invokevirtual 128, 3) := by decide +kernel
theorem dX6_visit_120 : decode cX6_visit 120 = .ok (.iload_n 2, 1) := by decide +kernel
theorem dX6_visit_121 : decode cX6_visit 121 = .ok (.iconst (-1), 1) := by decide +kernel
theorem dX6_visit_122 : decode cX6_visit 122 = .ok (.if_icmp .ne 15, 3) := by decide +kernel
theorem dX6_visit_125 : decode cX6_visit 125 = .ok (.iload 7, 2) := by decide +kernel
theorem dX6_visit_127 : decode cX6_visit 127 = .ok (.ifCond .ne 10, 3) := by decide +kernel
theorem dX6_visit_130 : decode cX6_visit 130 = .ok (.iload_n 3, 1) := by decide +kernel
theorem dX6_visit_131 : decode cX6_visit 131 = .ok (.iconst 1, 1) := by decide +kernel
theorem dX6_visit_132 : decode cX6_visit 132 = .ok (.ishr, 1) := by decide +kernel
theorem dX6_visit_133 : decode cX6_visit 133 = .ok (.istore_n 2, 1) := by decide +kernel
theorem dX6_visit_134 : decode cX6_visit 134 = .ok (.goto 23, 3) := by decide +kernel
theorem dX6_visit_137 : decode cX6_visit 137 = .ok (.iload_n 2, 1) := by decide +kernel
theorem dX6_visit_138 : decode cX6_visit 138 = .ok (.iconst (-1), 1) := by decide +kernel
theorem dX6_visit_139 : decode cX6_visit 139 = .ok (.if_icmp .ne 18, 3) := by decide +kernel
theorem dX6_visit_142 : decode cX6_visit 142 = .ok (.iload 7, 2) := by decide +kernel
theorem dX6_visit_144 : decode cX6_visit 144 = .ok (.iconst 2, 1) := by decide +kernel
theorem dX6_visit_145 : decode cX6_visit 145 = .ok (.if_icmp .ne 12, 3) := by decide +kernel
theorem dX6_visit_148 : decode cX6_visit 148 = .ok (.aload_n 0, 1) := by decide +kernel
theorem dX6_visit_149 : decode cX6_visit 149 = .ok (.iload 6, 2) := by decide +kernel
theorem dX6_visit_151 : decode cX6_visit 151 = .ok (.iload_n 3, 1) := by decide +kernel
theorem dX6_visit_152 : decode cX6_visit 152 = .ok (.iconst 1, 1) := by decide +kernel
theorem dX6_visit_153 : decode cX6_visit 153 = .ok (.ishr, 1) := by decide +kernel
theorem dX6_visit_154 : decode cX6_visit 154 = .ok (.invokevirtual 56, 3) := by decide +kernel
theorem dX6_visit_157 : decode cX6_visit 157 = .ok (.iload 5, 2) := by decide +kernel
theorem dX6_visit_159 : decode cX6_visit 159 = .ok (.istore_n 3, 1) := by decide +kernel
theorem dX6_visit_160 : decode cX6_visit 160 = .ok (.iinc 4 1, 3) := by decide +kernel
theorem dX6_visit_163 : decode cX6_visit 163 = .ok (.goto (-138), 3) := by decide +kernel
theorem dX6_visit_166 : decode cX6_visit 166 = .ok (.iload_n 2, 1) := by decide +kernel
theorem dX6_visit_167 : decode cX6_visit 167 = .ok (.ireturn, 1) := by decide +kernel
theorem dX6_openPlace_0 : decode cX6_openPlace 0 = .ok (.aload_n 0, 1) := by decide +kernel
theorem dX6_openPlace_1 : decode cX6_openPlace 1 = .ok (.getfield 12, 3) := by decide +kernel
theorem dX6_openPlace_4 : decode cX6_openPlace 4 = .ok (.getfield 131, 3) := by decide +kernel
theorem dX6_openPlace_7 : decode cX6_openPlace 7 = .ok (.iload_n 1, 1) := by decide +kernel
theorem dX6_openPlace_8 : decode cX6_openPlace 8 = .ok (.iaload, 1) := by decide +kernel
theorem dX6_openPlace_9 : decode cX6_openPlace 9 = .ok (.iconst 2, 1) := by decide +kernel
theorem dX6_openPlace_10 : decode cX6_openPlace 10 = .ok (.iadd, 1) := by decide +kernel
theorem dX6_openPlace_11 : decode cX6_openPlace 11 = .ok (.istore_n 2, 1) := by decide +kernel
theorem dX6_openPlace_12 : decode cX6_openPlace 12 = .ok (.iload_n 2, 1) := by decide +kernel
theorem dX6_openPlace_13 : decode cX6_openPlace 13 = .ok (.aload_n 0, 1) := by decide +kernel
theorem dX6_openPlace_14 : decode cX6_openPlace 14 = .ok (.getfield 12, 3) := by decide +kernel
theorem dX6_openPlace_17 : decode cX6_openPlace 17 = .ok (.getfield 131, 3) := by decide +kernel
theorem dX6_openPlace_20 : decode cX6_openPlace 20 = .ok (.iload_n 1, 1) := by decide +kernel
theorem dX6_openPlace_21 : decode cX6_openPlace 21 = .ok (.iconst 1, 1) := by decide +kernel
theorem dX6_openPlace_22 : decode cX6_openPlace 22 = .ok (.iadd, 1) := by decide +kernel
theorem dX6_openPlace_23 : decode cX6_openPlace 23 = .ok (.iaload, 1) := by decide +kernel
theorem dX6_openPlace_24 : decode cX6_openPlace 24 = .ok (.if_icmp .ge 27, 3) := by decide +kernel
theorem dX6_openPlace_27 : decode cX6_openPlace 27 = .ok (.aload_n 0, 1) := by decide +kernel
theorem dX6_openPlace_28 : decode cX6_openPlace 28 = .ok (.aload_n 0, 1) := by decide +kernel
theorem dX6_openPlace_29 : decode cX6_openPlace 29 = .ok (.getfield 12, 3) := by decide +kernel
theorem dX6_openPlace_32 : decode cX6_openPlace 32 = .ok (.getfield 134, 3) := by decide +kernel
theorem dX6_openPlace_35 : decode cX6_openPlace 35 = .ok (.iload_n 2, 1) := by decide +kernel
theorem dX6_openPlace_36 : decode cX6_openPlace 36 = .ok (.iaload, 1) := by decide +kernel
theorem dX6_openPlace_37 : decode cX6_openPlace 37 = .ok (.invokevirtual 52, 3) := by decide +kernel
theorem dX6_openPlace_40 : decode cX6_openPlace 40 = .ok (.ifCond .eq 5, 3) := by decide +kernel
theorem dX6_openPlace_43 : decode cX6_openPlace 43 = .ok (.iload_n 2, 1) := by decide +kernel
theorem dX6_openPlace_44 : decode cX6_openPlace 44 = .ok (.ireturn, 1) := by decide +kernel
theorem dX6_openPlace_45 : decode cX6_openPlace 45 = .ok (.iinc 2 1, 3) := by decide +kernel
theorem dX6_openPlace_48 : decode cX6_openPlace 48 = .ok (.goto (-36), 3) := by decide +kernel
theorem dX6_openPlace_51 : decode cX6_openPlace 51 = .ok (.iconst (-1), 1) := by decide +kernel
theorem dX6_openPlace_52 : decode cX6_openPlace 52 = .ok (.ireturn, 1) := by decide +kernel
theorem dX6_decide_0 : decode cX6_decide 0 = .ok (.iconst 0, 1) := by decide +kernel
theorem dX6_decide_1 : decode cX6_decide 1 = .ok (.istore_n 1, 1) := by decide +kernel
theorem dX6_decide_2 : decode cX6_decide 2 = .ok (.iload_n 1, 1) := by decide +kernel
theorem dX6_decide_3 : decode cX6_decide 3 = .ok (.aload_n 0, 1) := by decide +kernel
theorem dX6_decide_4 : decode cX6_decide 4 = .ok (.getfield 45, 3) := by decide +kernel
theorem dX6_decide_7 : decode cX6_decide 7 = .ok (.if_icmp .ge 52, 3) := by decide +kernel
theorem dX6_decide_10 : decode cX6_decide 10 = .ok (.aload_n 0, 1) := by decide +kernel
theorem dX6_decide_11 : decode cX6_decide 11 = .ok (.getfield 26, 3) := by decide +kernel
theorem dX6_decide_14 : decode cX6_decide 14 = .ok (.aload_n 0, 1) := by decide +kernel
theorem dX6_decide_15 : decode cX6_decide 15 = .ok (.getfield 18, 3) := by decide +kernel
theorem dX6_decide_18 : decode cX6_decide 18 = .ok (.iload_n 1, 1) := by decide +kernel
theorem dX6_decide_19 : decode cX6_decide 19 = .ok (.iaload, 1) := by decide +kernel
theorem dX6_decide_20 : decode cX6_decide 20 = .ok (.iaload, 1) := by decide +kernel
theorem dX6_decide_21 : decode cX6_decide 21 = .ok (.iconst 2, 1) := by decide +kernel
theorem dX6_decide_22 : decode cX6_decide 22 = .ok (.if_icmp .ne 31, 3) := by decide +kernel
theorem dX6_decide_25 : decode cX6_decide 25 = .ok (.aload_n 0, 1) := by decide +kernel
theorem dX6_decide_26 : decode cX6_decide 26 = .ok (.dup, 1) := by decide +kernel
theorem dX6_decide_27 : decode cX6_decide 27 = .ok (.getfield 91, 3) := by decide +kernel
theorem dX6_decide_30 : decode cX6_decide 30 = .ok (.iconst 1, 1) := by decide +kernel
theorem dX6_decide_31 : decode cX6_decide 31 = .ok (.iadd, 1) := by decide +kernel
theorem dX6_decide_32 : decode cX6_decide 32 = .ok (.putfield 91, 3) := by decide +kernel
theorem dX6_decide_35 : decode cX6_decide 35 = .ok (.aload_n 0, 1) := by decide +kernel
theorem dX6_decide_36 : decode cX6_decide 36 = .ok (.iconst 2, 1) := by decide +kernel
theorem dX6_decide_37 : decode cX6_decide 37 = .ok (.aload_n 0, 1) := by decide +kernel
theorem dX6_decide_38 : decode cX6_decide 38 = .ok (.getfield 18, 3) := by decide +kernel
theorem dX6_decide_41 : decode cX6_decide 41 = .ok (.iload_n 1, 1) := by decide +kernel
theorem dX6_decide_42 : decode cX6_decide 42 = .ok (.iaload, 1) := by decide +kernel
theorem dX6_decide_43 : decode cX6_decide 43 = .ok (.imul, 1) := by decide +kernel
theorem dX6_decide_44 : decode cX6_decide 44 = .ok (.iconst 1, 1) := by decide +kernel
theorem dX6_decide_45 : decode cX6_decide 45 = .ok (.iadd, 1) := by decide +kernel
theorem dX6_decide_46 : decode cX6_decide 46 = .ok (.bipush (-2), 2) := by decide +kernel
theorem dX6_decide_48 : decode cX6_decide 48 = .ok (.invokevirtual 56, 3) := by decide +kernel
theorem dX6_decide_51 : decode cX6_decide 51 = .ok (.iconst 1, 1) := by decide +kernel
theorem dX6_decide_52 : decode cX6_decide 52 = .ok (.ireturn, 1) := by decide +kernel
theorem dX6_decide_53 : decode cX6_decide 53 = .ok (.iinc 1 1, 3) := by decide +kernel
theorem dX6_decide_56 : decode cX6_decide 56 = .ok (.goto (-54), 3) := by decide +kernel
theorem dX6_decide_59 : decode cX6_decide 59 = .ok (.iconst 0, 1) := by decide +kernel
theorem dX6_decide_60 : decode cX6_decide 60 = .ok (.ireturn, 1) := by decide +kernel
theorem dX6_learnFrom_0 : decode cX6_learnFrom 0 = .ok (.aload_n 0, 1) := by decide +kernel
theorem dX6_learnFrom_1 : decode cX6_learnFrom 1 = .ok (.iload_n 1, 1) := by decide +kernel
theorem dX6_learnFrom_2 : decode cX6_learnFrom 2 = .ok (.invokevirtual 137, 3) := by decide +kernel
theorem dX6_learnFrom_5 : decode cX6_learnFrom 5 = .ok (.aload_n 0, 1) := by decide +kernel
theorem dX6_learnFrom_6 : decode cX6_learnFrom 6 = .ok (.getfield 140, 3) := by decide +kernel
theorem dX6_learnFrom_9 : decode cX6_learnFrom 9 = .ok (.ifCond .ne 5, 3) := by decide +kernel
theorem dX6_learnFrom_12 : decode cX6_learnFrom 12 = .ok (.iconst 0, 1) := by decide +kernel
theorem dX6_learnFrom_13 : decode cX6_learnFrom 13 = .ok (.ireturn, 1) := by decide +kernel
theorem dX6_learnFrom_14 : decode cX6_learnFrom 14 = .ok (.iconst (-1), 1) := by decide +kernel
theorem dX6_learnFrom_15 : decode cX6_learnFrom 15 = .ok (.istore_n 2, 1) := by decide +kernel
theorem dX6_learnFrom_16 : decode cX6_learnFrom 16 = .ok (.iconst 0, 1) := by decide +kernel
theorem dX6_learnFrom_17 : decode cX6_learnFrom 17 = .ok (.istore_n 3, 1) := by decide +kernel
theorem dX6_learnFrom_18 : decode cX6_learnFrom 18 = .ok (.aload_n 0, 1) := by decide +kernel
theorem dX6_learnFrom_19 : decode cX6_learnFrom 19 = .ok (.getfield 140, 3) := by decide +kernel
theorem dX6_learnFrom_22 : decode cX6_learnFrom 22 = .ok (.iconst 1, 1) := by decide +kernel
theorem dX6_learnFrom_23 : decode cX6_learnFrom 23 = .ok (.if_icmp .le 57, 3) := by decide +kernel
theorem dX6_learnFrom_26 : decode cX6_learnFrom 26 = .ok (.aload_n 0, 1) := by decide +kernel
theorem dX6_learnFrom_27 : decode cX6_learnFrom 27 = .ok (.getfield 29, 3) := by decide +kernel
theorem dX6_learnFrom_30 : decode cX6_learnFrom 30 = .ok (.aload_n 0, 1) := by decide +kernel
theorem dX6_learnFrom_31 : decode cX6_learnFrom 31 = .ok (.getfield 38, 3) := by decide +kernel
theorem dX6_learnFrom_34 : decode cX6_learnFrom 34 = .ok (.iconst 1, 1) := by decide +kernel
theorem dX6_learnFrom_35 : decode cX6_learnFrom 35 = .ok (.iaload, 1) := by decide +kernel
theorem dX6_learnFrom_36 : decode cX6_learnFrom 36 = .ok (.iconst 1, 1) := by decide +kernel
theorem dX6_learnFrom_37 : decode cX6_learnFrom 37 = .ok (.ishr, 1) := by decide +kernel
theorem dX6_learnFrom_38 : decode cX6_learnFrom 38 = .ok (.iaload, 1) := by decide +kernel
theorem dX6_learnFrom_39 : decode cX6_learnFrom 39 = .ok (.istore_n 3, 1) := by decide +kernel
theorem dX6_learnFrom_40 : decode cX6_learnFrom 40 = .ok (.iconst 0, 1) := by decide +kernel
theorem dX6_learnFrom_41 : decode cX6_learnFrom 41 = .ok (.istore 4, 2) := by decide +kernel
theorem dX6_learnFrom_43 : decode cX6_learnFrom 43 = .ok (.iload 4, 2) := by decide +kernel
theorem dX6_learnFrom_45 : decode cX6_learnFrom 45 = .ok (.aload_n 0, 1) := by decide +kernel
theorem dX6_learnFrom_46 : decode cX6_learnFrom 46 = .ok (.getfield 140, 3) := by decide +kernel
theorem dX6_learnFrom_49 : decode cX6_learnFrom 49 = .ok (.if_icmp .ge 23, 3) := by decide +kernel
theorem dX6_learnFrom_52 : decode cX6_learnFrom 52 = .ok (.aload_n 0, 1) := by decide +kernel
theorem dX6_learnFrom_53 : decode cX6_learnFrom 53 = .ok (.getfield 12, 3) := by decide +kernel
theorem dX6_learnFrom_56 : decode cX6_learnFrom 56 = .ok (.aload_n 0, 1) := by decide +kernel
theorem dX6_learnFrom_57 : decode cX6_learnFrom 57 = .ok (.getfield 38, 3) := by decide +kernel
theorem dX6_learnFrom_60 : decode cX6_learnFrom 60 = .ok (.iload 4, 2) := by decide +kernel
theorem dX6_learnFrom_62 : decode cX6_learnFrom 62 = .ok (.iaload, 1) := by decide +kernel
theorem dX6_learnFrom_63 : decode cX6_learnFrom 63 = .ok (.invokevirtual 143, 3) := by decide +kernel
theorem dX6_learnFrom_66 : decode cX6_learnFrom 66 = .ok (.iinc 4 1, 3) := by decide +kernel
theorem dX6_learnFrom_69 : decode cX6_learnFrom 69 = .ok (.goto (-26), 3) := by decide +kernel
theorem dX6_learnFrom_72 : decode cX6_learnFrom 72 = .ok (.aload_n 0, 1) := by decide +kernel
theorem dX6_learnFrom_73 : decode cX6_learnFrom 73 = .ok (.getfield 12, 3) := by decide +kernel
theorem dX6_learnFrom_76 : decode cX6_learnFrom 76 = .ok (.invokevirtual 146, 3) := by decide +kernel
theorem dX6_learnFrom_79 : decode cX6_learnFrom 79 = .ok (.istore_n 2, 1) := by decide +kernel
theorem dX6_learnFrom_80 : decode cX6_learnFrom 80 = .ok (.aload_n 0, 1) := by decide +kernel
theorem dX6_learnFrom_81 : decode cX6_learnFrom 81 = .ok (.iload_n 3, 1) := by decide +kernel
theorem dX6_learnFrom_82 : decode cX6_learnFrom 82 = .ok (.invokevirtual 149, 3) := by decide +kernel
theorem dX6_learnFrom_85 : decode cX6_learnFrom 85 = .ok (.aload_n 0, 1) := by decide +kernel
theorem dX6_learnFrom_86 : decode cX6_learnFrom 86 = .ok (.aload_n 0, 1) := by decide +kernel
theorem dX6_learnFrom_87 : decode cX6_learnFrom 87 = .ok (.getfield 38, 3) := by decide +kernel
theorem dX6_learnFrom_90 : decode cX6_learnFrom 90 = .ok (.iconst 0, 1) := by decide +kernel
theorem dX6_learnFrom_91 : decode cX6_learnFrom 91 = .ok (.iaload, 1) := by decide +kernel
theorem dX6_learnFrom_92 : decode cX6_learnFrom 92 = .ok (.iload_n 2, 1) := by decide +kernel
theorem dX6_learnFrom_93 : decode cX6_learnFrom 93 = .ok (.invokevirtual 56, 3) := by decide +kernel
theorem dX6_learnFrom_96 : decode cX6_learnFrom 96 = .ok (.iconst 1, 1) := by decide +kernel
theorem dX6_learnFrom_97 : decode cX6_learnFrom 97 = .ok (.ireturn, 1) := by decide +kernel
theorem dX6_collectDecisions_0 : decode cX6_collectDecisions 0 = .ok (.aload_n 0, 1) := by decide +kernel
theorem dX6_collectDecisions_1 : decode cX6_collectDecisions 1 = .ok (.iconst 0, 1) := by decide +kernel
theorem dX6_collectDecisions_2 : decode cX6_collectDecisions 2 = .ok (.putfield 140, 3) := by decide +kernel
theorem dX6_collectDecisions_5 : decode cX6_collectDecisions 5 = .ok (.aload_n 0, 1) := by decide +kernel
theorem dX6_collectDecisions_6 : decode cX6_collectDecisions 6 = .ok (.iload_n 1, 1) := by decide +kernel
theorem dX6_collectDecisions_7 : decode cX6_collectDecisions 7 = .ok (.invokevirtual 152, 3) := by decide +kernel
theorem dX6_collectDecisions_10 : decode cX6_collectDecisions 10 = .ok (.aload_n 0, 1) := by decide +kernel
theorem dX6_collectDecisions_11 : decode cX6_collectDecisions 11 = .ok (.getfield 85, 3) := by decide +kernel
theorem dX6_collectDecisions_14 : decode cX6_collectDecisions 14 = .ok (.iconst 1, 1) := by decide +kernel
theorem dX6_collectDecisions_15 : decode cX6_collectDecisions 15 = .ok (.isub, 1) := by decide +kernel
theorem dX6_collectDecisions_16 : decode cX6_collectDecisions 16 = .ok (.istore_n 2, 1) := by decide +kernel
theorem dX6_collectDecisions_17 : decode cX6_collectDecisions 17 = .ok (.iload_n 2, 1) := by decide +kernel
theorem dX6_collectDecisions_18 : decode cX6_collectDecisions 18 = .ok (.ifCond .lt 103, 3) := by decide +kernel
theorem dX6_collectDecisions_21 : decode cX6_collectDecisions 21 = .ok (.aload_n 0, 1) := by decide +kernel
theorem dX6_collectDecisions_22 : decode cX6_collectDecisions 22 = .ok (.getfield 35, 3) := by decide +kernel
theorem dX6_collectDecisions_25 : decode cX6_collectDecisions 25 = .ok (.iload_n 2, 1) := by decide +kernel
theorem dX6_collectDecisions_26 : decode cX6_collectDecisions 26 = .ok (.iaload, 1) := by decide +kernel
theorem dX6_collectDecisions_27 : decode cX6_collectDecisions 27 = .ok (.iconst 1, 1) := by decide +kernel
theorem dX6_collectDecisions_28 : decode cX6_collectDecisions 28 = .ok (.ishr, 1) := by decide +kernel
theorem dX6_collectDecisions_29 : decode cX6_collectDecisions 29 = .ok (.istore_n 3, 1) := by decide +kernel
theorem dX6_collectDecisions_30 : decode cX6_collectDecisions 30 = .ok (.aload_n 0, 1) := by decide +kernel
theorem dX6_collectDecisions_31 : decode cX6_collectDecisions 31 = .ok (.getfield 22, 3) := by decide +kernel
theorem dX6_collectDecisions_34 : decode cX6_collectDecisions 34 = .ok (.iload_n 3, 1) := by decide +kernel
theorem dX6_collectDecisions_35 : decode cX6_collectDecisions 35 = .ok (.baload, 1) := by decide +kernel
theorem dX6_collectDecisions_36 : decode cX6_collectDecisions 36 = .ok (.ifCond .eq 79, 3) := by decide +kernel
theorem dX6_collectDecisions_39 : decode cX6_collectDecisions 39 = .ok (.aload_n 0, 1) := by decide +kernel
theorem dX6_collectDecisions_40 : decode cX6_collectDecisions 40 = .ok (.getfield 32, 3) := by decide +kernel
theorem dX6_collectDecisions_43 : decode cX6_collectDecisions 43 = .ok (.iload_n 3, 1) := by decide +kernel
theorem dX6_collectDecisions_44 : decode cX6_collectDecisions 44 = .ok (.iaload, 1) := by decide +kernel
theorem dX6_collectDecisions_45 : decode cX6_collectDecisions 45 = .ok (.ifCond .lt 16, 3) := by decide +kernel
theorem dX6_collectDecisions_48 : decode cX6_collectDecisions 48 = .ok (.aload_n 0, 1) := by decide +kernel
theorem dX6_collectDecisions_49 : decode cX6_collectDecisions 49 = .ok (.aload_n 0, 1) := by decide +kernel
theorem dX6_collectDecisions_50 : decode cX6_collectDecisions 50 = .ok (.getfield 32, 3) := by decide +kernel
theorem dX6_collectDecisions_53 : decode cX6_collectDecisions 53 = .ok (.iload_n 3, 1) := by decide +kernel
theorem dX6_collectDecisions_54 : decode cX6_collectDecisions 54 = .ok (.iaload, 1) := by decide +kernel
theorem dX6_collectDecisions_55 : decode cX6_collectDecisions 55 = .ok (.invokevirtual 152, 3) := by decide +kernel
theorem dX6_collectDecisions_58 : decode cX6_collectDecisions 58 = .ok (.goto 50, 3) := by decide +kernel
theorem dX6_collectDecisions_61 : decode cX6_collectDecisions 61 = .ok (.aload_n 0, 1) := by decide +kernel
theorem dX6_collectDecisions_62 : decode cX6_collectDecisions 62 = .ok (.getfield 32, 3) := by decide +kernel
theorem dX6_collectDecisions_65 : decode cX6_collectDecisions 65 = .ok (.iload_n 3, 1) := by decide +kernel
theorem dX6_collectDecisions_66 : decode cX6_collectDecisions 66 = .ok (.iaload, 1) := by decide +kernel
theorem dX6_collectDecisions_67 : decode cX6_collectDecisions 67 = .ok (.bipush (-2), 2) := by decide +kernel
theorem dX6_collectDecisions_69 : decode cX6_collectDecisions 69 = .ok (.if_icmp .ne 39, 3) := by decide +kernel
theorem dX6_collectDecisions_72 : decode cX6_collectDecisions 72 = .ok (.aload_n 0, 1) := by decide +kernel
theorem dX6_collectDecisions_73 : decode cX6_collectDecisions 73 = .ok (.getfield 140, 3) := by decide +kernel
theorem dX6_collectDecisions_76 : decode cX6_collectDecisions 76 = .ok (.bipush 8, 2) := by decide +kernel
theorem dX6_collectDecisions_78 : decode cX6_collectDecisions 78 = .ok (.if_icmp .ge 30, 3) := by decide +kernel
theorem dX6_collectDecisions_81 : decode cX6_collectDecisions 81 = .ok (.aload_n 0, 1) := by decide +kernel
theorem dX6_collectDecisions_82 : decode cX6_collectDecisions 82 = .ok (.getfield 38, 3) := by decide +kernel
theorem dX6_collectDecisions_85 : decode cX6_collectDecisions 85 = .ok (.aload_n 0, 1) := by decide +kernel
theorem dX6_collectDecisions_86 : decode cX6_collectDecisions 86 = .ok (.getfield 140, 3) := by decide +kernel
theorem dX6_collectDecisions_89 : decode cX6_collectDecisions 89 = .ok (.aload_n 0, 1) := by decide +kernel
theorem dX6_collectDecisions_90 : decode cX6_collectDecisions 90 = .ok (.getfield 35, 3) := by decide +kernel
theorem dX6_collectDecisions_93 : decode cX6_collectDecisions 93 = .ok (.iload_n 2, 1) := by decide +kernel
theorem dX6_collectDecisions_94 : decode cX6_collectDecisions 94 = .ok (.iaload, 1) := by decide +kernel
theorem dX6_collectDecisions_95 : decode cX6_collectDecisions 95 = .ok (.iconst 1, 1) := by decide +kernel
theorem dX6_collectDecisions_96 : decode cX6_collectDecisions 96 = .ok (.ixor, 1) := by decide +kernel
theorem dX6_collectDecisions_97 : decode cX6_collectDecisions 97 = .ok (.iastore, 1) := by decide +kernel
theorem dX6_collectDecisions_98 : decode cX6_collectDecisions 98 = .ok (.aload_n 0, 1) := by decide +kernel
theorem dX6_collectDecisions_99 : decode cX6_collectDecisions 99 = .ok (.dup, 1) := by decide +kernel
theorem dX6_collectDecisions_100 : decode cX6_collectDecisions 100 = .ok (.getfield 140, 3) := by decide +kernel
theorem dX6_collectDecisions_103 : decode cX6_collectDecisions 103 = .ok (.iconst 1, 1) := by decide +kernel
theorem dX6_collectDecisions_104 : decode cX6_collectDecisions 104 = .ok (.iadd, 1) := by decide +kernel
theorem dX6_collectDecisions_105 : decode cX6_collectDecisions 105 = .ok (.putfield 140, 3) := by decide +kernel
theorem dX6_collectDecisions_108 : decode cX6_collectDecisions 108 = .ok (.aload_n 0, 1) := by decide +kernel
theorem dX6_collectDecisions_109 : decode cX6_collectDecisions 109 = .ok (.getfield 22, 3) := by decide +kernel
theorem dX6_collectDecisions_112 : decode cX6_collectDecisions 112 = .ok (.iload_n 3, 1) := by decide +kernel
theorem dX6_collectDecisions_113 : decode cX6_collectDecisions 113 = .ok (.iconst 0, 1) := by decide +kernel
theorem dX6_collectDecisions_114 : decode cX6_collectDecisions 114 = .ok (.bastore, 1) := by decide +kernel
theorem dX6_collectDecisions_115 : decode cX6_collectDecisions 115 = .ok (.iinc 2 (-1), 3) := by decide +kernel
theorem dX6_collectDecisions_118 : decode cX6_collectDecisions 118 = .ok (.goto (-101), 3) := by decide +kernel
theorem dX6_collectDecisions_121 : decode cX6_collectDecisions 121 = .ok (.return_, 1) := by decide +kernel
theorem dX6_markClause_0 : decode cX6_markClause 0 = .ok (.aload_n 0, 1) := by decide +kernel
theorem dX6_markClause_1 : decode cX6_markClause 1 = .ok (.getfield 12, 3) := by decide +kernel
theorem dX6_markClause_4 : decode cX6_markClause 4 = .ok (.getfield 131, 3) := by decide +kernel
theorem dX6_markClause_7 : decode cX6_markClause 7 = .ok (.iload_n 1, 1) := by decide +kernel
theorem dX6_markClause_8 : decode cX6_markClause 8 = .ok (.iaload, 1) := by decide +kernel
theorem dX6_markClause_9 : decode cX6_markClause 9 = .ok (.istore_n 2, 1) := by decide +kernel
theorem dX6_markClause_10 : decode cX6_markClause 10 = .ok (.iload_n 2, 1) := by decide +kernel
theorem dX6_markClause_11 : decode cX6_markClause 11 = .ok (.aload_n 0, 1) := by decide +kernel
theorem dX6_markClause_12 : decode cX6_markClause 12 = .ok (.getfield 12, 3) := by decide +kernel
theorem dX6_markClause_15 : decode cX6_markClause 15 = .ok (.getfield 131, 3) := by decide +kernel
theorem dX6_markClause_18 : decode cX6_markClause 18 = .ok (.iload_n 1, 1) := by decide +kernel
theorem dX6_markClause_19 : decode cX6_markClause 19 = .ok (.iconst 1, 1) := by decide +kernel
theorem dX6_markClause_20 : decode cX6_markClause 20 = .ok (.iadd, 1) := by decide +kernel
theorem dX6_markClause_21 : decode cX6_markClause 21 = .ok (.iaload, 1) := by decide +kernel
theorem dX6_markClause_22 : decode cX6_markClause 22 = .ok (.if_icmp .ge 26, 3) := by decide +kernel
theorem dX6_markClause_25 : decode cX6_markClause 25 = .ok (.aload_n 0, 1) := by decide +kernel
theorem dX6_markClause_26 : decode cX6_markClause 26 = .ok (.getfield 22, 3) := by decide +kernel
theorem dX6_markClause_29 : decode cX6_markClause 29 = .ok (.aload_n 0, 1) := by decide +kernel
theorem dX6_markClause_30 : decode cX6_markClause 30 = .ok (.getfield 12, 3) := by decide +kernel
theorem dX6_markClause_33 : decode cX6_markClause 33 = .ok (.getfield 134, 3) := by decide +kernel
theorem dX6_markClause_36 : decode cX6_markClause 36 = .ok (.iload_n 2, 1) := by decide +kernel
theorem dX6_markClause_37 : decode cX6_markClause 37 = .ok (.iaload, 1) := by decide +kernel
theorem dX6_markClause_38 : decode cX6_markClause 38 = .ok (.iconst 1, 1) := by decide +kernel
theorem dX6_markClause_39 : decode cX6_markClause 39 = .ok (.ishr, 1) := by decide +kernel
theorem dX6_markClause_40 : decode cX6_markClause 40 = .ok (.iconst 1, 1) := by decide +kernel
theorem dX6_markClause_41 : decode cX6_markClause 41 = .ok (.bastore, 1) := by decide +kernel
theorem dX6_markClause_42 : decode cX6_markClause 42 = .ok (.iinc 2 1, 3) := by decide +kernel
theorem dX6_markClause_45 : decode cX6_markClause 45 = .ok (.goto (-35), 3) := by decide +kernel
theorem dX6_markClause_48 : decode cX6_markClause 48 = .ok (.return_, 1) := by decide +kernel
theorem dX6_goBack_0 : decode cX6_goBack 0 = .ok (.aload_n 0, 1) := by decide +kernel
theorem dX6_goBack_1 : decode cX6_goBack 1 = .ok (.getfield 85, 3) := by decide +kernel
theorem dX6_goBack_4 : decode cX6_goBack 4 = .ok (.ifCond .le 55, 3) := by decide +kernel
theorem dX6_goBack_7 : decode cX6_goBack 7 = .ok (.aload_n 0, 1) := by decide +kernel
theorem dX6_goBack_8 : decode cX6_goBack 8 = .ok (.getfield 29, 3) := by decide +kernel
theorem dX6_goBack_11 : decode cX6_goBack 11 = .ok (.aload_n 0, 1) := by decide +kernel
theorem dX6_goBack_12 : decode cX6_goBack 12 = .ok (.getfield 35, 3) := by decide +kernel
theorem dX6_goBack_15 : decode cX6_goBack 15 = .ok (.aload_n 0, 1) := by decide +kernel
theorem dX6_goBack_16 : decode cX6_goBack 16 = .ok (.getfield 85, 3) := by decide +kernel
theorem dX6_goBack_19 : decode cX6_goBack 19 = .ok (.iconst 1, 1) := by decide +kernel
theorem dX6_goBack_20 : decode cX6_goBack 20 = .ok (.isub, 1) := by decide +kernel
theorem dX6_goBack_21 : decode cX6_goBack 21 = .ok (.iaload, 1) := by decide +kernel
theorem dX6_goBack_22 : decode cX6_goBack 22 = .ok (.iconst 1, 1) := by decide +kernel
theorem dX6_goBack_23 : decode cX6_goBack 23 = .ok (.ishr, 1) := by decide +kernel
theorem dX6_goBack_24 : decode cX6_goBack 24 = .ok (.iaload, 1) := by decide +kernel
theorem dX6_goBack_25 : decode cX6_goBack 25 = .ok (.iload_n 1, 1) := by decide +kernel
theorem dX6_goBack_26 : decode cX6_goBack 26 = .ok (.if_icmp .le 33, 3) := by decide +kernel
theorem dX6_goBack_29 : decode cX6_goBack 29 = .ok (.aload_n 0, 1) := by decide +kernel
theorem dX6_goBack_30 : decode cX6_goBack 30 = .ok (.dup, 1) := by decide +kernel
theorem dX6_goBack_31 : decode cX6_goBack 31 = .ok (.getfield 85, 3) := by decide +kernel
theorem dX6_goBack_34 : decode cX6_goBack 34 = .ok (.iconst 1, 1) := by decide +kernel
theorem dX6_goBack_35 : decode cX6_goBack 35 = .ok (.isub, 1) := by decide +kernel
theorem dX6_goBack_36 : decode cX6_goBack 36 = .ok (.putfield 85, 3) := by decide +kernel
theorem dX6_goBack_39 : decode cX6_goBack 39 = .ok (.aload_n 0, 1) := by decide +kernel
theorem dX6_goBack_40 : decode cX6_goBack 40 = .ok (.getfield 26, 3) := by decide +kernel
theorem dX6_goBack_43 : decode cX6_goBack 43 = .ok (.aload_n 0, 1) := by decide +kernel
theorem dX6_goBack_44 : decode cX6_goBack 44 = .ok (.getfield 35, 3) := by decide +kernel
theorem dX6_goBack_47 : decode cX6_goBack 47 = .ok (.aload_n 0, 1) := by decide +kernel
theorem dX6_goBack_48 : decode cX6_goBack 48 = .ok (.getfield 85, 3) := by decide +kernel
theorem dX6_goBack_51 : decode cX6_goBack 51 = .ok (.iaload, 1) := by decide +kernel
theorem dX6_goBack_52 : decode cX6_goBack 52 = .ok (.iconst 1, 1) := by decide +kernel
theorem dX6_goBack_53 : decode cX6_goBack 53 = .ok (.ishr, 1) := by decide +kernel
theorem dX6_goBack_54 : decode cX6_goBack 54 = .ok (.iconst 2, 1) := by decide +kernel
theorem dX6_goBack_55 : decode cX6_goBack 55 = .ok (.iastore, 1) := by decide +kernel
theorem dX6_goBack_56 : decode cX6_goBack 56 = .ok (.goto (-56), 3) := by decide +kernel
theorem dX6_goBack_59 : decode cX6_goBack 59 = .ok (.aload_n 0, 1) := by decide +kernel
theorem dX6_goBack_60 : decode cX6_goBack 60 = .ok (.aload_n 0, 1) := by decide +kernel
theorem dX6_goBack_61 : decode cX6_goBack 61 = .ok (.getfield 88, 3) := by decide +kernel
theorem dX6_goBack_64 : decode cX6_goBack 64 = .ok (.aload_n 0, 1) := by decide +kernel
theorem dX6_goBack_65 : decode cX6_goBack 65 = .ok (.getfield 85, 3) := by decide +kernel
theorem dX6_goBack_68 : decode cX6_goBack 68 = .ok (.invokestatic 155, 3) := by decide +kernel
theorem dX6_goBack_71 : decode cX6_goBack 71 = .ok (.putfield 88, 3) := by decide +kernel
theorem dX6_goBack_74 : decode cX6_goBack 74 = .ok (.aload_n 0, 1) := by decide +kernel
theorem dX6_goBack_75 : decode cX6_goBack 75 = .ok (.iload_n 1, 1) := by decide +kernel
theorem dX6_goBack_76 : decode cX6_goBack 76 = .ok (.putfield 91, 3) := by decide +kernel
theorem dX6_goBack_79 : decode cX6_goBack 79 = .ok (.return_, 1) := by decide +kernel
theorem dX7_init_0 : decode cX7_init 0 = .ok (.aload_n 0, 1) := by decide +kernel
theorem dX7_init_1 : decode cX7_init 1 = .ok (.invokespecial 3, 3) := by decide +kernel
theorem dX7_init_4 : decode cX7_init 4 = .ok (.aload_n 0, 1) := by decide +kernel
theorem dX7_init_5 : decode cX7_init 5 = .ok (.sipush 180, 3) := by decide +kernel
theorem dX7_init_8 : decode cX7_init 8 = .ok (.anewarray 11, 3) := by decide +kernel
theorem dX7_init_11 : decode cX7_init 11 = .ok (.putfield 13, 3) := by decide +kernel
theorem dX7_init_14 : decode cX7_init 14 = .ok (.aload_n 0, 1) := by decide +kernel
theorem dX7_init_15 : decode cX7_init 15 = .ok (.sipush 540, 3) := by decide +kernel
theorem dX7_init_18 : decode cX7_init 18 = .ok (.newarray .int, 2) := by decide +kernel
theorem dX7_init_20 : decode cX7_init 20 = .ok (.putfield 17, 3) := by decide +kernel
theorem dX7_init_23 : decode cX7_init 23 = .ok (.aload_n 0, 1) := by decide +kernel
theorem dX7_init_24 : decode cX7_init 24 = .ok (.sipush 360, 3) := by decide +kernel
theorem dX7_init_27 : decode cX7_init 27 = .ok (.newarray .int, 2) := by decide +kernel
theorem dX7_init_29 : decode cX7_init 29 = .ok (.putfield 21, 3) := by decide +kernel
theorem dX7_init_32 : decode cX7_init 32 = .ok (.aload_n 0, 1) := by decide +kernel
theorem dX7_init_33 : decode cX7_init 33 = .ok (.sipush 180, 3) := by decide +kernel
theorem dX7_init_36 : decode cX7_init 36 = .ok (.newarray .int, 2) := by decide +kernel
theorem dX7_init_38 : decode cX7_init 38 = .ok (.putfield 24, 3) := by decide +kernel
theorem dX7_init_41 : decode cX7_init 41 = .ok (.return_, 1) := by decide +kernel
theorem dX7_has_0 : decode cX7_has 0 = .ok (.iload_n 1, 1) := by decide +kernel
theorem dX7_has_1 : decode cX7_has 1 = .ok (.ifCond .lt 15, 3) := by decide +kernel
theorem dX7_has_4 : decode cX7_has 4 = .ok (.iload_n 1, 1) := by decide +kernel
theorem dX7_has_5 : decode cX7_has 5 = .ok (.aload_n 0, 1) := by decide +kernel
theorem dX7_has_6 : decode cX7_has 6 = .ok (.getfield 27, 3) := by decide +kernel
theorem dX7_has_9 : decode cX7_has 9 = .ok (.if_icmp .ge 7, 3) := by decide +kernel
theorem dX7_has_12 : decode cX7_has 12 = .ok (.iconst 1, 1) := by decide +kernel
theorem dX7_has_13 : decode cX7_has 13 = .ok (.goto 4, 3) := by decide +kernel
theorem dX7_has_16 : decode cX7_has 16 = .ok (.iconst 0, 1) := by decide +kernel
theorem dX7_has_17 : decode cX7_has 17 = .ok (.ireturn, 1) := by decide +kernel
theorem dX7_opOf_0 : decode cX7_opOf 0 = .ok (.aload_n 0, 1) := by decide +kernel
theorem dX7_opOf_1 : decode cX7_opOf 1 = .ok (.iload_n 1, 1) := by decide +kernel
theorem dX7_opOf_2 : decode cX7_opOf 2 = .ok (.invokevirtual 31, 3) := by decide +kernel
theorem dX7_opOf_5 : decode cX7_opOf 5 = .ok (.ifCond .eq 12, 3) := by decide +kernel
theorem dX7_opOf_8 : decode cX7_opOf 8 = .ok (.aload_n 0, 1) := by decide +kernel
theorem dX7_opOf_9 : decode cX7_opOf 9 = .ok (.getfield 13, 3) := by decide +kernel
theorem dX7_opOf_12 : decode cX7_opOf 12 = .ok (.iload_n 1, 1) := by decide +kernel
theorem dX7_opOf_13 : decode cX7_opOf 13 = .ok (.aaload, 1) := by decide +kernel
theorem dX7_opOf_14 : decode cX7_opOf 14 = .ok (.goto 4, 3) := by decide +kernel
theorem dX7_opOf_17 : decode cX7_opOf 17 = .ok (.aconst_null, 1) := by decide +kernel
theorem dX7_opOf_18 : decode cX7_opOf 18 = .ok (.areturn, 1) := by decide +kernel
theorem dX7_partOf_0 : decode cX7_partOf 0 = .ok (.aload_n 0, 1) := by decide +kernel
theorem dX7_partOf_1 : decode cX7_partOf 1 = .ok (.iload_n 1, 1) := by decide +kernel
theorem dX7_partOf_2 : decode cX7_partOf 2 = .ok (.invokevirtual 31, 3) := by decide +kernel
theorem dX7_partOf_5 : decode cX7_partOf 5 = .ok (.ifCond .eq 25, 3) := by decide +kernel
theorem dX7_partOf_8 : decode cX7_partOf 8 = .ok (.iload_n 2, 1) := by decide +kernel
theorem dX7_partOf_9 : decode cX7_partOf 9 = .ok (.ifCond .lt 21, 3) := by decide +kernel
theorem dX7_partOf_12 : decode cX7_partOf 12 = .ok (.iload_n 2, 1) := by decide +kernel
theorem dX7_partOf_13 : decode cX7_partOf 13 = .ok (.iconst 3, 1) := by decide +kernel
theorem dX7_partOf_14 : decode cX7_partOf 14 = .ok (.if_icmp .ge 16, 3) := by decide +kernel
theorem dX7_partOf_17 : decode cX7_partOf 17 = .ok (.aload_n 0, 1) := by decide +kernel
theorem dX7_partOf_18 : decode cX7_partOf 18 = .ok (.getfield 17, 3) := by decide +kernel
theorem dX7_partOf_21 : decode cX7_partOf 21 = .ok (.iconst 3, 1) := by decide +kernel
theorem dX7_partOf_22 : decode cX7_partOf 22 = .ok (.iload_n 1, 1) := by decide +kernel
theorem dX7_partOf_23 : decode cX7_partOf 23 = .ok (.imul, 1) := by decide +kernel
theorem dX7_partOf_24 : decode cX7_partOf 24 = .ok (.iload_n 2, 1) := by decide +kernel
theorem dX7_partOf_25 : decode cX7_partOf 25 = .ok (.iadd, 1) := by decide +kernel
theorem dX7_partOf_26 : decode cX7_partOf 26 = .ok (.iaload, 1) := by decide +kernel
theorem dX7_partOf_27 : decode cX7_partOf 27 = .ok (.goto 4, 3) := by decide +kernel
theorem dX7_partOf_30 : decode cX7_partOf 30 = .ok (.iconst (-1), 1) := by decide +kernel
theorem dX7_partOf_31 : decode cX7_partOf 31 = .ok (.ireturn, 1) := by decide +kernel
theorem dX7_numberOf_0 : decode cX7_numberOf 0 = .ok (.aload_n 0, 1) := by decide +kernel
theorem dX7_numberOf_1 : decode cX7_numberOf 1 = .ok (.iload_n 1, 1) := by decide +kernel
theorem dX7_numberOf_2 : decode cX7_numberOf 2 = .ok (.invokevirtual 31, 3) := by decide +kernel
theorem dX7_numberOf_5 : decode cX7_numberOf 5 = .ok (.ifCond .eq 25, 3) := by decide +kernel
theorem dX7_numberOf_8 : decode cX7_numberOf 8 = .ok (.iload_n 2, 1) := by decide +kernel
theorem dX7_numberOf_9 : decode cX7_numberOf 9 = .ok (.ifCond .lt 21, 3) := by decide +kernel
theorem dX7_numberOf_12 : decode cX7_numberOf 12 = .ok (.iload_n 2, 1) := by decide +kernel
theorem dX7_numberOf_13 : decode cX7_numberOf 13 = .ok (.iconst 2, 1) := by decide +kernel
theorem dX7_numberOf_14 : decode cX7_numberOf 14 = .ok (.if_icmp .ge 16, 3) := by decide +kernel
theorem dX7_numberOf_17 : decode cX7_numberOf 17 = .ok (.aload_n 0, 1) := by decide +kernel
theorem dX7_numberOf_18 : decode cX7_numberOf 18 = .ok (.getfield 21, 3) := by decide +kernel
theorem dX7_numberOf_21 : decode cX7_numberOf 21 = .ok (.iconst 2, 1) := by decide +kernel
theorem dX7_numberOf_22 : decode cX7_numberOf 22 = .ok (.iload_n 1, 1) := by decide +kernel
theorem dX7_numberOf_23 : decode cX7_numberOf 23 = .ok (.imul, 1) := by decide +kernel
theorem dX7_numberOf_24 : decode cX7_numberOf 24 = .ok (.iload_n 2, 1) := by decide +kernel
theorem dX7_numberOf_25 : decode cX7_numberOf 25 = .ok (.iadd, 1) := by decide +kernel
theorem dX7_numberOf_26 : decode cX7_numberOf 26 = .ok (.iaload, 1) := by decide +kernel
theorem dX7_numberOf_27 : decode cX7_numberOf 27 = .ok (.goto 4, 3) := by decide +kernel
theorem dX7_numberOf_30 : decode cX7_numberOf 30 = .ok (.iconst 0, 1) := by decide +kernel
theorem dX7_numberOf_31 : decode cX7_numberOf 31 = .ok (.ireturn, 1) := by decide +kernel
theorem dX7_sortOf_0 : decode cX7_sortOf 0 = .ok (.iload_n 1, 1) := by decide +kernel
theorem dX7_sortOf_1 : decode cX7_sortOf 1 = .ok (.ifCond .lt 20, 3) := by decide +kernel
theorem dX7_sortOf_4 : decode cX7_sortOf 4 = .ok (.iload_n 1, 1) := by decide +kernel
theorem dX7_sortOf_5 : decode cX7_sortOf 5 = .ok (.aload_n 0, 1) := by decide +kernel
theorem dX7_sortOf_6 : decode cX7_sortOf 6 = .ok (.getfield 27, 3) := by decide +kernel
theorem dX7_sortOf_9 : decode cX7_sortOf 9 = .ok (.if_icmp .ge 12, 3) := by decide +kernel
theorem dX7_sortOf_12 : decode cX7_sortOf 12 = .ok (.aload_n 0, 1) := by decide +kernel
theorem dX7_sortOf_13 : decode cX7_sortOf 13 = .ok (.getfield 24, 3) := by decide +kernel
theorem dX7_sortOf_16 : decode cX7_sortOf 16 = .ok (.iload_n 1, 1) := by decide +kernel
theorem dX7_sortOf_17 : decode cX7_sortOf 17 = .ok (.iaload, 1) := by decide +kernel
theorem dX7_sortOf_18 : decode cX7_sortOf 18 = .ok (.goto 4, 3) := by decide +kernel
theorem dX7_sortOf_21 : decode cX7_sortOf 21 = .ok (.iconst 0, 1) := by decide +kernel
theorem dX7_sortOf_22 : decode cX7_sortOf 22 = .ok (.ireturn, 1) := by decide +kernel
theorem dX7_addConstant_0 : decode cX7_addConstant 0 = .ok (.aload_n 0, 1) := by decide +kernel
theorem dX7_addConstant_1 : decode cX7_addConstant 1 = .ok (.getstatic 35, 3) := by decide +kernel
theorem dX7_addConstant_4 : decode cX7_addConstant 4 = .ok (.iload_n 1, 1) := by decide +kernel
theorem dX7_addConstant_5 : decode cX7_addConstant 5 = .ok (.iconst 0, 1) := by decide +kernel
theorem dX7_addConstant_6 : decode cX7_addConstant 6 = .ok (.iload_n 2, 1) := by decide +kernel
theorem dX7_addConstant_7 : decode cX7_addConstant 7 = .ok (.invokevirtual 39, 3) := by decide +kernel
theorem dX7_addConstant_10 : decode cX7_addConstant 10 = .ok (.aload_n 0, 1) := by decide +kernel
theorem dX7_addConstant_11 : decode cX7_addConstant 11 = .ok (.invokevirtual 43, 3) := by decide +kernel
theorem dX7_addConstant_14 : decode cX7_addConstant 14 = .ok (.ireturn, 1) := by decide +kernel
theorem dX7_prepare_0 : decode cX7_prepare 0 = .ok (.aload_n 0, 1) := by decide +kernel
theorem dX7_prepare_1 : decode cX7_prepare 1 = .ok (.getfield 27, 3) := by decide +kernel
theorem dX7_prepare_4 : decode cX7_prepare 4 = .ok (.sipush 180, 3) := by decide +kernel
theorem dX7_prepare_7 : decode cX7_prepare 7 = .ok (.if_icmp .ge 80, 3) := by decide +kernel
theorem dX7_prepare_10 : decode cX7_prepare 10 = .ok (.aload_n 0, 1) := by decide +kernel
theorem dX7_prepare_11 : decode cX7_prepare 11 = .ok (.getfield 13, 3) := by decide +kernel
theorem dX7_prepare_14 : decode cX7_prepare 14 = .ok (.aload_n 0, 1) := by decide +kernel
theorem dX7_prepare_15 : decode cX7_prepare 15 = .ok (.getfield 27, 3) := by decide +kernel
theorem dX7_prepare_18 : decode cX7_prepare 18 = .ok (.aload_n 1, 1) := by decide +kernel
theorem dX7_prepare_19 : decode cX7_prepare 19 = .ok (.aastore, 1) := by decide +kernel
theorem dX7_prepare_20 : decode cX7_prepare 20 = .ok (.aload_n 0, 1) := by decide +kernel
theorem dX7_prepare_21 : decode cX7_prepare 21 = .ok (.getfield 21, 3) := by decide +kernel
theorem dX7_prepare_24 : decode cX7_prepare 24 = .ok (.iconst 2, 1) := by decide +kernel
theorem dX7_prepare_25 : decode cX7_prepare 25 = .ok (.aload_n 0, 1) := by decide +kernel
theorem dX7_prepare_26 : decode cX7_prepare 26 = .ok (.getfield 27, 3) := by decide +kernel
theorem dX7_prepare_29 : decode cX7_prepare 29 = .ok (.imul, 1) := by decide +kernel
theorem dX7_prepare_30 : decode cX7_prepare 30 = .ok (.iload_n 2, 1) := by decide +kernel
theorem dX7_prepare_31 : decode cX7_prepare 31 = .ok (.iastore, 1) := by decide +kernel
theorem dX7_prepare_32 : decode cX7_prepare 32 = .ok (.aload_n 0, 1) := by decide +kernel
theorem dX7_prepare_33 : decode cX7_prepare 33 = .ok (.getfield 21, 3) := by decide +kernel
theorem dX7_prepare_36 : decode cX7_prepare 36 = .ok (.iconst 2, 1) := by decide +kernel
theorem dX7_prepare_37 : decode cX7_prepare 37 = .ok (.aload_n 0, 1) := by decide +kernel
theorem dX7_prepare_38 : decode cX7_prepare 38 = .ok (.getfield 27, 3) := by decide +kernel
theorem dX7_prepare_41 : decode cX7_prepare 41 = .ok (.imul, 1) := by decide +kernel
theorem dX7_prepare_42 : decode cX7_prepare 42 = .ok (.iconst 1, 1) := by decide +kernel
theorem dX7_prepare_43 : decode cX7_prepare 43 = .ok (.iadd, 1) := by decide +kernel
theorem dX7_prepare_44 : decode cX7_prepare 44 = .ok (.iload_n 3, 1) := by decide +kernel
theorem dX7_prepare_45 : decode cX7_prepare 45 = .ok (.iastore, 1) := by decide +kernel
theorem dX7_prepare_46 : decode cX7_prepare 46 = .ok (.aload_n 0, 1) := by decide +kernel
theorem dX7_prepare_47 : decode cX7_prepare 47 = .ok (.getfield 24, 3) := by decide +kernel
theorem dX7_prepare_50 : decode cX7_prepare 50 = .ok (.aload_n 0, 1) := by decide +kernel
theorem dX7_prepare_51 : decode cX7_prepare 51 = .ok (.getfield 27, 3) := by decide +kernel
theorem dX7_prepare_54 : decode cX7_prepare 54 = .ok (.iload 4, 2) := by decide +kernel
theorem dX7_prepare_56 : decode cX7_prepare 56 = .ok (.iastore, 1) := by decide +kernel
theorem dX7_prepare_57 : decode cX7_prepare 57 = .ok (.iconst 0, 1) := by decide +kernel
theorem dX7_prepare_58 : decode cX7_prepare 58 = .ok (.istore 5, 2) := by decide +kernel
theorem dX7_prepare_60 : decode cX7_prepare 60 = .ok (.iload 5, 2) := by decide +kernel
theorem dX7_prepare_62 : decode cX7_prepare 62 = .ok (.iconst 3, 1) := by decide +kernel
theorem dX7_prepare_63 : decode cX7_prepare 63 = .ok (.if_icmp .ge 24, 3) := by decide +kernel
theorem dX7_prepare_66 : decode cX7_prepare 66 = .ok (.aload_n 0, 1) := by decide +kernel
theorem dX7_prepare_67 : decode cX7_prepare 67 = .ok (.getfield 17, 3) := by decide +kernel
theorem dX7_prepare_70 : decode cX7_prepare 70 = .ok (.iconst 3, 1) := by decide +kernel
theorem dX7_prepare_71 : decode cX7_prepare 71 = .ok (.aload_n 0, 1) := by decide +kernel
theorem dX7_prepare_72 : decode cX7_prepare 72 = .ok (.getfield 27, 3) := by decide +kernel
theorem dX7_prepare_75 : decode cX7_prepare 75 = .ok (.imul, 1) := by decide +kernel
theorem dX7_prepare_76 : decode cX7_prepare 76 = .ok (.iload 5, 2) := by decide +kernel
theorem dX7_prepare_78 : decode cX7_prepare 78 = .ok (.iadd, 1) := by decide +kernel
theorem dX7_prepare_79 : decode cX7_prepare 79 = .ok (.iconst 0, 1) := by decide +kernel
theorem dX7_prepare_80 : decode cX7_prepare 80 = .ok (.iastore, 1) := by decide +kernel
theorem dX7_prepare_81 : decode cX7_prepare 81 = .ok (.iinc 5 1, 3) := by decide +kernel
theorem dX7_prepare_84 : decode cX7_prepare 84 = .ok (.goto (-24), 3) := by decide +kernel
theorem dX7_prepare_87 : decode cX7_prepare 87 = .ok (.return_, 1) := by decide +kernel
theorem dX7_preparePart_0 : decode cX7_preparePart 0 = .ok (.aload_n 0, 1) := by decide +kernel
theorem dX7_preparePart_1 : decode cX7_preparePart 1 = .ok (.getfield 27, 3) := by decide +kernel
theorem dX7_preparePart_4 : decode cX7_preparePart 4 = .ok (.sipush 180, 3) := by decide +kernel
theorem dX7_preparePart_7 : decode cX7_preparePart 7 = .ok (.if_icmp .ge 26, 3) := by decide +kernel
theorem dX7_preparePart_10 : decode cX7_preparePart 10 = .ok (.iload_n 1, 1) := by decide +kernel
theorem dX7_preparePart_11 : decode cX7_preparePart 11 = .ok (.ifCond .lt 22, 3) := by decide +kernel
theorem dX7_preparePart_14 : decode cX7_preparePart 14 = .ok (.iload_n 1, 1) := by decide +kernel
theorem dX7_preparePart_15 : decode cX7_preparePart 15 = .ok (.iconst 3, 1) := by decide +kernel
theorem dX7_preparePart_16 : decode cX7_preparePart 16 = .ok (.if_icmp .ge 17, 3) := by decide +kernel
theorem dX7_preparePart_19 : decode cX7_preparePart 19 = .ok (.aload_n 0, 1) := by decide +kernel
theorem dX7_preparePart_20 : decode cX7_preparePart 20 = .ok (.getfield 17, 3) := by decide +kernel
theorem dX7_preparePart_23 : decode cX7_preparePart 23 = .ok (.iconst 3, 1) := by decide +kernel
theorem dX7_preparePart_24 : decode cX7_preparePart 24 = .ok (.aload_n 0, 1) := by decide +kernel
theorem dX7_preparePart_25 : decode cX7_preparePart 25 = .ok (.getfield 27, 3) := by decide +kernel
theorem dX7_preparePart_28 : decode cX7_preparePart 28 = .ok (.imul, 1) := by decide +kernel
theorem dX7_preparePart_29 : decode cX7_preparePart 29 = .ok (.iload_n 1, 1) := by decide +kernel
theorem dX7_preparePart_30 : decode cX7_preparePart 30 = .ok (.iadd, 1) := by decide +kernel
theorem dX7_preparePart_31 : decode cX7_preparePart 31 = .ok (.iload_n 2, 1) := by decide +kernel
theorem dX7_preparePart_32 : decode cX7_preparePart 32 = .ok (.iastore, 1) := by decide +kernel
theorem dX7_preparePart_33 : decode cX7_preparePart 33 = .ok (.return_, 1) := by decide +kernel
theorem dX7_make_0 : decode cX7_make 0 = .ok (.iconst 0, 1) := by decide +kernel
theorem dX7_make_1 : decode cX7_make 1 = .ok (.istore_n 1, 1) := by decide +kernel
theorem dX7_make_2 : decode cX7_make 2 = .ok (.iload_n 1, 1) := by decide +kernel
theorem dX7_make_3 : decode cX7_make 3 = .ok (.aload_n 0, 1) := by decide +kernel
theorem dX7_make_4 : decode cX7_make 4 = .ok (.getfield 27, 3) := by decide +kernel
theorem dX7_make_7 : decode cX7_make 7 = .ok (.if_icmp .ge 19, 3) := by decide +kernel
theorem dX7_make_10 : decode cX7_make 10 = .ok (.aload_n 0, 1) := by decide +kernel
theorem dX7_make_11 : decode cX7_make 11 = .ok (.iload_n 1, 1) := by decide +kernel
theorem dX7_make_12 : decode cX7_make 12 = .ok (.invokevirtual 47, 3) := by decide +kernel
theorem dX7_make_15 : decode cX7_make 15 = .ok (.ifCond .eq 5, 3) := by decide +kernel
theorem dX7_make_18 : decode cX7_make 18 = .ok (.iload_n 1, 1) := by decide +kernel
theorem dX7_make_19 : decode cX7_make 19 = .ok (.ireturn, 1) := by decide +kernel
theorem dX7_make_20 : decode cX7_make 20 = .ok (.iinc 1 1, 3) := by decide +kernel
theorem dX7_make_23 : decode cX7_make 23 = .ok (.goto (-21), 3) := by decide +kernel
theorem dX7_make_26 : decode cX7_make 26 = .ok (.aload_n 0, 1) := by decide +kernel
theorem dX7_make_27 : decode cX7_make 27 = .ok (.invokevirtual 43, 3) := by decide +kernel
theorem dX7_make_30 : decode cX7_make 30 = .ok (.ireturn, 1) := by decide +kernel
theorem dX7_isPrepared_0 : decode cX7_isPrepared 0 = .ok (.aload_n 0, 1) := by decide +kernel
theorem dX7_isPrepared_1 : decode cX7_isPrepared 1 = .ok (.getfield 27, 3) := by decide +kernel
theorem dX7_isPrepared_4 : decode cX7_isPrepared 4 = .ok (.sipush 180, 3) := by decide +kernel
theorem dX7_isPrepared_7 : decode cX7_isPrepared 7 = .ok (.if_icmp .ge 39, 3) := by decide +kernel
theorem dX7_isPrepared_10 : decode cX7_isPrepared 10 = .ok (.aload_n 0, 1) := by decide +kernel
theorem dX7_isPrepared_11 : decode cX7_isPrepared 11 = .ok (.getfield 13, 3) := by decide +kernel
theorem dX7_isPrepared_14 : decode cX7_isPrepared 14 = .ok (.iload_n 1, 1) := by decide +kernel
theorem dX7_isPrepared_15 : decode cX7_isPrepared 15 = .ok (.aaload, 1) := by decide +kernel
theorem dX7_isPrepared_16 : decode cX7_isPrepared 16 = .ok (.aload_n 0, 1) := by decide +kernel
theorem dX7_isPrepared_17 : decode cX7_isPrepared 17 = .ok (.getfield 13, 3) := by decide +kernel
theorem dX7_isPrepared_20 : decode cX7_isPrepared 20 = .ok (.aload_n 0, 1) := by decide +kernel
theorem dX7_isPrepared_21 : decode cX7_isPrepared 21 = .ok (.getfield 27, 3) := by decide +kernel
theorem dX7_isPrepared_24 : decode cX7_isPrepared 24 = .ok (.aaload, 1) := by decide +kernel
theorem dX7_isPrepared_25 : decode cX7_isPrepared 25 = .ok (.if_acmp .ne 21, 3) := by decide +kernel
theorem dX7_isPrepared_28 : decode cX7_isPrepared 28 = .ok (.aload_n 0, 1) := by decide +kernel
theorem dX7_isPrepared_29 : decode cX7_isPrepared 29 = .ok (.getfield 24, 3) := by decide +kernel
theorem dX7_isPrepared_32 : decode cX7_isPrepared 32 = .ok (.iload_n 1, 1) := by decide +kernel
theorem dX7_isPrepared_33 : decode cX7_isPrepared 33 = .ok (.iaload, 1) := by decide +kernel
theorem dX7_isPrepared_34 : decode cX7_isPrepared 34 = .ok (.aload_n 0, 1) := by decide +kernel
theorem dX7_isPrepared_35 : decode cX7_isPrepared 35 = .ok (.getfield 24, 3) := by decide +kernel
theorem dX7_isPrepared_38 : decode cX7_isPrepared 38 = .ok (.aload_n 0, 1) := by decide +kernel
theorem dX7_isPrepared_39 : decode cX7_isPrepared 39 = .ok (.getfield 27, 3) := by decide +kernel
theorem dX7_isPrepared_42 : decode cX7_isPrepared 42 = .ok (.iaload, 1) := by decide +kernel
theorem dX7_isPrepared_43 : decode cX7_isPrepared 43 = .ok (.if_icmp .eq 5, 3) := by decide +kernel
theorem dX7_isPrepared_46 : decode cX7_isPrepared 46 = .ok (.iconst 0, 1) := by decide +kernel
theorem dX7_isPrepared_47 : decode cX7_isPrepared 47 = .ok (.ireturn, 1) := by decide +kernel
theorem dX7_isPrepared_48 : decode cX7_isPrepared 48 = .ok (.iconst 0, 1) := by decide +kernel
theorem dX7_isPrepared_49 : decode cX7_isPrepared 49 = .ok (.istore_n 2, 1) := by decide +kernel
theorem dX7_isPrepared_50 : decode cX7_isPrepared 50 = .ok (.iload_n 2, 1) := by decide +kernel
theorem dX7_isPrepared_51 : decode cX7_isPrepared 51 = .ok (.iconst 3, 1) := by decide +kernel
theorem dX7_isPrepared_52 : decode cX7_isPrepared 52 = .ok (.if_icmp .ge 37, 3) := by decide +kernel
theorem dX7_isPrepared_55 : decode cX7_isPrepared 55 = .ok (.aload_n 0, 1) := by decide +kernel
theorem dX7_isPrepared_56 : decode cX7_isPrepared 56 = .ok (.getfield 17, 3) := by decide +kernel
theorem dX7_isPrepared_59 : decode cX7_isPrepared 59 = .ok (.iconst 3, 1) := by decide +kernel
theorem dX7_isPrepared_60 : decode cX7_isPrepared 60 = .ok (.iload_n 1, 1) := by decide +kernel
theorem dX7_isPrepared_61 : decode cX7_isPrepared 61 = .ok (.imul, 1) := by decide +kernel
theorem dX7_isPrepared_62 : decode cX7_isPrepared 62 = .ok (.iload_n 2, 1) := by decide +kernel
theorem dX7_isPrepared_63 : decode cX7_isPrepared 63 = .ok (.iadd, 1) := by decide +kernel
theorem dX7_isPrepared_64 : decode cX7_isPrepared 64 = .ok (.iaload, 1) := by decide +kernel
theorem dX7_isPrepared_65 : decode cX7_isPrepared 65 = .ok (.aload_n 0, 1) := by decide +kernel
theorem dX7_isPrepared_66 : decode cX7_isPrepared 66 = .ok (.getfield 17, 3) := by decide +kernel
theorem dX7_isPrepared_69 : decode cX7_isPrepared 69 = .ok (.iconst 3, 1) := by decide +kernel
theorem dX7_isPrepared_70 : decode cX7_isPrepared 70 = .ok (.aload_n 0, 1) := by decide +kernel
theorem dX7_isPrepared_71 : decode cX7_isPrepared 71 = .ok (.getfield 27, 3) := by decide +kernel
theorem dX7_isPrepared_74 : decode cX7_isPrepared 74 = .ok (.imul, 1) := by decide +kernel
theorem dX7_isPrepared_75 : decode cX7_isPrepared 75 = .ok (.iload_n 2, 1) := by decide +kernel
theorem dX7_isPrepared_76 : decode cX7_isPrepared 76 = .ok (.iadd, 1) := by decide +kernel
theorem dX7_isPrepared_77 : decode cX7_isPrepared 77 = .ok (.iaload, 1) := by decide +kernel
theorem dX7_isPrepared_78 : decode cX7_isPrepared 78 = .ok (.if_icmp .eq 5, 3) := by decide +kernel
theorem dX7_isPrepared_81 : decode cX7_isPrepared 81 = .ok (.iconst 0, 1) := by decide +kernel
theorem dX7_isPrepared_82 : decode cX7_isPrepared 82 = .ok (.ireturn, 1) := by decide +kernel
theorem dX7_isPrepared_83 : decode cX7_isPrepared 83 = .ok (.iinc 2 1, 3) := by decide +kernel
theorem dX7_isPrepared_86 : decode cX7_isPrepared 86 = .ok (.goto (-36), 3) := by decide +kernel
theorem dX7_isPrepared_89 : decode cX7_isPrepared 89 = .ok (.aload_n 0, 1) := by decide +kernel
theorem dX7_isPrepared_90 : decode cX7_isPrepared 90 = .ok (.getfield 21, 3) := by decide +kernel
theorem dX7_isPrepared_93 : decode cX7_isPrepared 93 = .ok (.iconst 2, 1) := by decide +kernel
theorem dX7_isPrepared_94 : decode cX7_isPrepared 94 = .ok (.iload_n 1, 1) := by decide +kernel
theorem dX7_isPrepared_95 : decode cX7_isPrepared 95 = .ok (.imul, 1) := by decide +kernel
theorem dX7_isPrepared_96 : decode cX7_isPrepared 96 = .ok (.iaload, 1) := by decide +kernel
theorem dX7_isPrepared_97 : decode cX7_isPrepared 97 = .ok (.aload_n 0, 1) := by decide +kernel
theorem dX7_isPrepared_98 : decode cX7_isPrepared 98 = .ok (.getfield 21, 3) := by decide +kernel
theorem dX7_isPrepared_101 : decode cX7_isPrepared 101 = .ok (.iconst 2, 1) := by decide +kernel
theorem dX7_isPrepared_102 : decode cX7_isPrepared 102 = .ok (.aload_n 0, 1) := by decide +kernel
theorem dX7_isPrepared_103 : decode cX7_isPrepared 103 = .ok (.getfield 27, 3) := by decide +kernel
theorem dX7_isPrepared_106 : decode cX7_isPrepared 106 = .ok (.imul, 1) := by decide +kernel
theorem dX7_isPrepared_107 : decode cX7_isPrepared 107 = .ok (.iaload, 1) := by decide +kernel
theorem dX7_isPrepared_108 : decode cX7_isPrepared 108 = .ok (.if_icmp .ne 33, 3) := by decide +kernel
theorem dX7_isPrepared_111 : decode cX7_isPrepared 111 = .ok (.aload_n 0, 1) := by decide +kernel
theorem dX7_isPrepared_112 : decode cX7_isPrepared 112 = .ok (.getfield 21, 3) := by decide +kernel
theorem dX7_isPrepared_115 : decode cX7_isPrepared 115 = .ok (.iconst 2, 1) := by decide +kernel
theorem dX7_isPrepared_116 : decode cX7_isPrepared 116 = .ok (.iload_n 1, 1) := by decide +kernel
theorem dX7_isPrepared_117 : decode cX7_isPrepared 117 = .ok (.imul, 1) := by decide +kernel
theorem dX7_isPrepared_118 : decode cX7_isPrepared 118 = .ok (.iconst 1, 1) := by decide +kernel
theorem dX7_isPrepared_119 : decode cX7_isPrepared 119 = .ok (.iadd, 1) := by decide +kernel
theorem dX7_isPrepared_120 : decode cX7_isPrepared 120 = .ok (.iaload, 1) := by decide +kernel
theorem dX7_isPrepared_121 : decode cX7_isPrepared 121 = .ok (.aload_n 0, 1) := by decide +kernel
theorem dX7_isPrepared_122 : decode cX7_isPrepared 122 = .ok (.getfield 21, 3) := by decide +kernel
theorem dX7_isPrepared_125 : decode cX7_isPrepared 125 = .ok (.iconst 2, 1) := by decide +kernel
theorem dX7_isPrepared_126 : decode cX7_isPrepared 126 = .ok (.aload_n 0, 1) := by decide +kernel
theorem dX7_isPrepared_127 : decode cX7_isPrepared 127 = .ok (.getfield 27, 3) := by decide +kernel
theorem dX7_isPrepared_130 : decode cX7_isPrepared 130 = .ok (.imul, 1) := by decide +kernel
theorem dX7_isPrepared_131 : decode cX7_isPrepared 131 = .ok (.iconst 1, 1) := by decide +kernel
theorem dX7_isPrepared_132 : decode cX7_isPrepared 132 = .ok (.iadd, 1) := by decide +kernel
theorem dX7_isPrepared_133 : decode cX7_isPrepared 133 = .ok (.iaload, 1) := by decide +kernel
theorem dX7_isPrepared_134 : decode cX7_isPrepared 134 = .ok (.if_icmp .ne 7, 3) := by decide +kernel
theorem dX7_isPrepared_137 : decode cX7_isPrepared 137 = .ok (.iconst 1, 1) := by decide +kernel
theorem dX7_isPrepared_138 : decode cX7_isPrepared 138 = .ok (.goto 4, 3) := by decide +kernel
theorem dX7_isPrepared_141 : decode cX7_isPrepared 141 = .ok (.iconst 0, 1) := by decide +kernel
theorem dX7_isPrepared_142 : decode cX7_isPrepared 142 = .ok (.ireturn, 1) := by decide +kernel
theorem dX7_add_0 : decode cX7_add 0 = .ok (.aload_n 0, 1) := by decide +kernel
theorem dX7_add_1 : decode cX7_add 1 = .ok (.getfield 27, 3) := by decide +kernel
theorem dX7_add_4 : decode cX7_add 4 = .ok (.sipush 180, 3) := by decide +kernel
theorem dX7_add_7 : decode cX7_add 7 = .ok (.if_icmp .lt 5, 3) := by decide +kernel
theorem dX7_add_10 : decode cX7_add 10 = .ok (.iconst (-1), 1) := by decide +kernel
theorem dX7_add_11 : decode cX7_add 11 = .ok (.ireturn, 1) := by decide +kernel
theorem dX7_add_12 : decode cX7_add 12 = .ok (.aload_n 0, 1) := by decide +kernel
theorem dX7_add_13 : decode cX7_add 13 = .ok (.dup, 1) := by decide +kernel
theorem dX7_add_14 : decode cX7_add 14 = .ok (.getfield 27, 3) := by decide +kernel
theorem dX7_add_17 : decode cX7_add 17 = .ok (.iconst 1, 1) := by decide +kernel
theorem dX7_add_18 : decode cX7_add 18 = .ok (.iadd, 1) := by decide +kernel
theorem dX7_add_19 : decode cX7_add 19 = .ok (.putfield 27, 3) := by decide +kernel
theorem dX7_add_22 : decode cX7_add 22 = .ok (.aload_n 0, 1) := by decide +kernel
theorem dX7_add_23 : decode cX7_add 23 = .ok (.getfield 27, 3) := by decide +kernel
theorem dX7_add_26 : decode cX7_add 26 = .ok (.iconst 1, 1) := by decide +kernel
theorem dX7_add_27 : decode cX7_add 27 = .ok (.isub, 1) := by decide +kernel
theorem dX7_add_28 : decode cX7_add 28 = .ok (.ireturn, 1) := by decide +kernel
theorem dX7_cut_0 : decode cX7_cut 0 = .ok (.iload_n 1, 1) := by decide +kernel
theorem dX7_cut_1 : decode cX7_cut 1 = .ok (.ifCond .lt 16, 3) := by decide +kernel
theorem dX7_cut_4 : decode cX7_cut 4 = .ok (.iload_n 1, 1) := by decide +kernel
theorem dX7_cut_5 : decode cX7_cut 5 = .ok (.aload_n 0, 1) := by decide +kernel
theorem dX7_cut_6 : decode cX7_cut 6 = .ok (.getfield 27, 3) := by decide +kernel
theorem dX7_cut_9 : decode cX7_cut 9 = .ok (.if_icmp .ge 8, 3) := by decide +kernel
theorem dX7_cut_12 : decode cX7_cut 12 = .ok (.aload_n 0, 1) := by decide +kernel
theorem dX7_cut_13 : decode cX7_cut 13 = .ok (.iload_n 1, 1) := by decide +kernel
theorem dX7_cut_14 : decode cX7_cut 14 = .ok (.putfield 27, 3) := by decide +kernel
theorem dX7_cut_17 : decode cX7_cut 17 = .ok (.return_, 1) := by decide +kernel
theorem dX7_heavyOnes_0 : decode cX7_heavyOnes 0 = .ok (.iconst 0, 1) := by decide +kernel
theorem dX7_heavyOnes_1 : decode cX7_heavyOnes 1 = .ok (.istore_n 1, 1) := by decide +kernel
theorem dX7_heavyOnes_2 : decode cX7_heavyOnes 2 = .ok (.iconst 0, 1) := by decide +kernel
theorem dX7_heavyOnes_3 : decode cX7_heavyOnes 3 = .ok (.istore_n 2, 1) := by decide +kernel
theorem dX7_heavyOnes_4 : decode cX7_heavyOnes 4 = .ok (.iload_n 2, 1) := by decide +kernel
theorem dX7_heavyOnes_5 : decode cX7_heavyOnes 5 = .ok (.aload_n 0, 1) := by decide +kernel
theorem dX7_heavyOnes_6 : decode cX7_heavyOnes 6 = .ok (.getfield 27, 3) := by decide +kernel
theorem dX7_heavyOnes_9 : decode cX7_heavyOnes 9 = .ok (.if_icmp .ge 33, 3) := by decide +kernel
theorem dX7_heavyOnes_12 : decode cX7_heavyOnes 12 = .ok (.aload_n 0, 1) := by decide +kernel
theorem dX7_heavyOnes_13 : decode cX7_heavyOnes 13 = .ok (.getfield 13, 3) := by decide +kernel
theorem dX7_heavyOnes_16 : decode cX7_heavyOnes 16 = .ok (.iload_n 2, 1) := by decide +kernel
theorem dX7_heavyOnes_17 : decode cX7_heavyOnes 17 = .ok (.aaload, 1) := by decide +kernel
theorem dX7_heavyOnes_18 : decode cX7_heavyOnes 18 = .ok (.ifnull 18, 3) := by decide +kernel
theorem dX7_heavyOnes_21 : decode cX7_heavyOnes 21 = .ok (.aload_n 0, 1) := by decide +kernel
theorem dX7_heavyOnes_22 : decode cX7_heavyOnes 22 = .ok (.getfield 13, 3) := by decide +kernel
theorem dX7_heavyOnes_25 : decode cX7_heavyOnes 25 = .ok (.iload_n 2, 1) := by decide +kernel
theorem dX7_heavyOnes_26 : decode cX7_heavyOnes 26 = .ok (.aaload, 1) := by decide +kernel
theorem dX7_heavyOnes_27 : decode cX7_heavyOnes 27 = .ok (.invokevirtual 50, 3) := by decide +kernel
theorem dX7_heavyOnes_30 : decode cX7_heavyOnes 30 = .ok (.ifCond .eq 6, 3) := by decide +kernel
theorem dX7_heavyOnes_33 : decode cX7_heavyOnes 33 = .ok (.iinc 1 1, 3) := by decide +kernel
theorem dX7_heavyOnes_36 : decode cX7_heavyOnes 36 = .ok (.iinc 2 1, 3) := by decide +kernel
theorem dX7_heavyOnes_39 : decode cX7_heavyOnes 39 = .ok (.goto (-35), 3) := by decide +kernel
theorem dX7_heavyOnes_42 : decode cX7_heavyOnes 42 = .ok (.iload_n 1, 1) := by decide +kernel
theorem dX7_heavyOnes_43 : decode cX7_heavyOnes 43 = .ok (.ireturn, 1) := by decide +kernel
theorem dX8_init_0 : decode cX8_init 0 = .ok (.aload_n 0, 1) := by decide +kernel
theorem dX8_init_1 : decode cX8_init 1 = .ok (.invokespecial 3, 3) := by decide +kernel
theorem dX8_init_4 : decode cX8_init 4 = .ok (.aload_n 0, 1) := by decide +kernel
theorem dX8_init_5 : decode cX8_init 5 = .ok (.bipush 120, 2) := by decide +kernel
theorem dX8_init_7 : decode cX8_init 7 = .ok (.newarray .char, 2) := by decide +kernel
theorem dX8_init_9 : decode cX8_init 9 = .ok (.putfield 9, 3) := by decide +kernel
theorem dX8_init_12 : decode cX8_init 12 = .ok (.aload_n 0, 1) := by decide +kernel
theorem dX8_init_13 : decode cX8_init 13 = .ok (.bipush 121, 2) := by decide +kernel
theorem dX8_init_15 : decode cX8_init 15 = .ok (.newarray .int, 2) := by decide +kernel
theorem dX8_init_17 : decode cX8_init 17 = .ok (.putfield 15, 3) := by decide +kernel
theorem dX8_init_20 : decode cX8_init 20 = .ok (.aload_n 0, 1) := by decide +kernel
theorem dX8_init_21 : decode cX8_init 21 = .ok (.bipush 121, 2) := by decide +kernel
theorem dX8_init_23 : decode cX8_init 23 = .ok (.newarray .int, 2) := by decide +kernel
theorem dX8_init_25 : decode cX8_init 25 = .ok (.putfield 19, 3) := by decide +kernel
theorem dX8_init_28 : decode cX8_init 28 = .ok (.aload_n 0, 1) := by decide +kernel
theorem dX8_init_29 : decode cX8_init 29 = .ok (.bipush 121, 2) := by decide +kernel
theorem dX8_init_31 : decode cX8_init 31 = .ok (.anewarray 22, 3) := by decide +kernel
theorem dX8_init_34 : decode cX8_init 34 = .ok (.putfield 24, 3) := by decide +kernel
theorem dX8_init_37 : decode cX8_init 37 = .ok (.return_, 1) := by decide +kernel
theorem dX8_append_0 : decode cX8_append 0 = .ok (.iload_n 2, 1) := by decide +kernel
theorem dX8_append_1 : decode cX8_append 1 = .ok (.iconst 1, 1) := by decide +kernel
theorem dX8_append_2 : decode cX8_append 2 = .ok (.if_icmp .lt 19, 3) := by decide +kernel
theorem dX8_append_5 : decode cX8_append 5 = .ok (.iload_n 2, 1) := by decide +kernel
theorem dX8_append_6 : decode cX8_append 6 = .ok (.iconst 4, 1) := by decide +kernel
theorem dX8_append_7 : decode cX8_append 7 = .ok (.if_icmp .gt 14, 3) := by decide +kernel
theorem dX8_append_10 : decode cX8_append 10 = .ok (.aload_n 0, 1) := by decide +kernel
theorem dX8_append_11 : decode cX8_append 11 = .ok (.getfield 28, 3) := by decide +kernel
theorem dX8_append_14 : decode cX8_append 14 = .ok (.iload_n 2, 1) := by decide +kernel
theorem dX8_append_15 : decode cX8_append 15 = .ok (.iadd, 1) := by decide +kernel
theorem dX8_append_16 : decode cX8_append 16 = .ok (.bipush 120, 2) := by decide +kernel
theorem dX8_append_18 : decode cX8_append 18 = .ok (.if_icmp .le 5, 3) := by decide +kernel
theorem dX8_append_21 : decode cX8_append 21 = .ok (.iconst 0, 1) := by decide +kernel
theorem dX8_append_22 : decode cX8_append 22 = .ok (.ireturn, 1) := by decide +kernel
theorem dX8_append_23 : decode cX8_append 23 = .ok (.iconst 0, 1) := by decide +kernel
theorem dX8_append_24 : decode cX8_append 24 = .ok (.istore_n 3, 1) := by decide +kernel
theorem dX8_append_25 : decode cX8_append 25 = .ok (.iload_n 3, 1) := by decide +kernel
theorem dX8_append_26 : decode cX8_append 26 = .ok (.iload_n 2, 1) := by decide +kernel
theorem dX8_append_27 : decode cX8_append 27 = .ok (.if_icmp .ge 32, 3) := by decide +kernel
theorem dX8_append_30 : decode cX8_append 30 = .ok (.iload_n 1, 1) := by decide +kernel
theorem dX8_append_31 : decode cX8_append 31 = .ok (.iload_n 3, 1) := by decide +kernel
theorem dX8_append_32 : decode cX8_append 32 = .ok (.invokestatic 32, 3) := by decide +kernel
theorem dX8_append_35 : decode cX8_append 35 = .ok (.istore 4, 2) := by decide +kernel
theorem dX8_append_37 : decode cX8_append 37 = .ok (.iload 4, 2) := by decide +kernel
theorem dX8_append_39 : decode cX8_append 39 = .ok (.bipush 32, 2) := by decide +kernel
theorem dX8_append_41 : decode cX8_append 41 = .ok (.if_icmp .lt 10, 3) := by decide +kernel
theorem dX8_append_44 : decode cX8_append 44 = .ok (.iload 4, 2) := by decide +kernel
theorem dX8_append_46 : decode cX8_append 46 = .ok (.bipush 126, 2) := by decide +kernel
theorem dX8_append_48 : decode cX8_append 48 = .ok (.if_icmp .le 5, 3) := by decide +kernel
theorem dX8_append_51 : decode cX8_append 51 = .ok (.iconst 0, 1) := by decide +kernel
theorem dX8_append_52 : decode cX8_append 52 = .ok (.ireturn, 1) := by decide +kernel
theorem dX8_append_53 : decode cX8_append 53 = .ok (.iinc 3 1, 3) := by decide +kernel
theorem dX8_append_56 : decode cX8_append 56 = .ok (.goto (-31), 3) := by decide +kernel
theorem dX8_append_59 : decode cX8_append 59 = .ok (.iload_n 2, 1) := by decide +kernel
theorem dX8_append_60 : decode cX8_append 60 = .ok (.iconst 1, 1) := by decide +kernel
theorem dX8_append_61 : decode cX8_append 61 = .ok (.isub, 1) := by decide +kernel
theorem dX8_append_62 : decode cX8_append 62 = .ok (.istore_n 3, 1) := by decide +kernel
theorem dX8_append_63 : decode cX8_append 63 = .ok (.iload_n 3, 1) := by decide +kernel
theorem dX8_append_64 : decode cX8_append 64 = .ok (.ifCond .lt 34, 3) := by decide +kernel
theorem dX8_append_67 : decode cX8_append 67 = .ok (.aload_n 0, 1) := by decide +kernel
theorem dX8_append_68 : decode cX8_append 68 = .ok (.getfield 9, 3) := by decide +kernel
theorem dX8_append_71 : decode cX8_append 71 = .ok (.aload_n 0, 1) := by decide +kernel
theorem dX8_append_72 : decode cX8_append 72 = .ok (.getfield 28, 3) := by decide +kernel
theorem dX8_append_75 : decode cX8_append 75 = .ok (.iload_n 1, 1) := by decide +kernel
theorem dX8_append_76 : decode cX8_append 76 = .ok (.iload_n 3, 1) := by decide +kernel
theorem dX8_append_77 : decode cX8_append 77 = .ok (.invokestatic 32, 3) := by decide +kernel
theorem dX8_append_80 : decode cX8_append 80 = .ok (.i2c, 1) := by decide +kernel
theorem dX8_append_81 : decode cX8_append 81 = .ok (.castore, 1) := by decide +kernel
theorem dX8_append_82 : decode cX8_append 82 = .ok (.aload_n 0, 1) := by decide +kernel
theorem dX8_append_83 : decode cX8_append 83 = .ok (.dup, 1) := by decide +kernel
theorem dX8_append_84 : decode cX8_append 84 = .ok (.getfield 28, 3) := by decide +kernel
theorem dX8_append_87 : decode cX8_append 87 = .ok (.iconst 1, 1) := by decide +kernel
theorem dX8_append_88 : decode cX8_append 88 = .ok (.iadd, 1) := by decide +kernel
theorem dX8_append_89 : decode cX8_append 89 = .ok (.putfield 28, 3) := by decide +kernel
theorem dX8_append_92 : decode cX8_append 92 = .ok (.iinc 3 (-1), 3) := by decide +kernel
theorem dX8_append_95 : decode cX8_append 95 = .ok (.goto (-32), 3) := by decide +kernel
theorem dX8_append_98 : decode cX8_append 98 = .ok (.iconst 1, 1) := by decide +kernel
theorem dX8_append_99 : decode cX8_append 99 = .ok (.ireturn, 1) := by decide +kernel
theorem dX8_byteOf_0 : decode cX8_byteOf 0 = .ok (.iload_n 0, 1) := by decide +kernel
theorem dX8_byteOf_1 : decode cX8_byteOf 1 = .ok (.bipush 8, 2) := by decide +kernel
theorem dX8_byteOf_3 : decode cX8_byteOf 3 = .ok (.iload_n 1, 1) := by decide +kernel
theorem dX8_byteOf_4 : decode cX8_byteOf 4 = .ok (.imul, 1) := by decide +kernel
theorem dX8_byteOf_5 : decode cX8_byteOf 5 = .ok (.ishr, 1) := by decide +kernel
theorem dX8_byteOf_6 : decode cX8_byteOf 6 = .ok (.sipush 255, 3) := by decide +kernel
theorem dX8_byteOf_9 : decode cX8_byteOf 9 = .ok (.iand, 1) := by decide +kernel
theorem dX8_byteOf_10 : decode cX8_byteOf 10 = .ok (.ireturn, 1) := by decide +kernel
theorem dX8_clear_0 : decode cX8_clear 0 = .ok (.aload_n 0, 1) := by decide +kernel
theorem dX8_clear_1 : decode cX8_clear 1 = .ok (.iconst 0, 1) := by decide +kernel
theorem dX8_clear_2 : decode cX8_clear 2 = .ok (.putfield 28, 3) := by decide +kernel
theorem dX8_clear_5 : decode cX8_clear 5 = .ok (.return_, 1) := by decide +kernel
theorem dX8_split_0 : decode cX8_split 0 = .ok (.aload_n 0, 1) := by decide +kernel
theorem dX8_split_1 : decode cX8_split 1 = .ok (.iconst 0, 1) := by decide +kernel
theorem dX8_split_2 : decode cX8_split 2 = .ok (.putfield 36, 3) := by decide +kernel
theorem dX8_split_5 : decode cX8_split 5 = .ok (.iconst 0, 1) := by decide +kernel
theorem dX8_split_6 : decode cX8_split 6 = .ok (.istore_n 1, 1) := by decide +kernel
theorem dX8_split_7 : decode cX8_split 7 = .ok (.iload_n 1, 1) := by decide +kernel
theorem dX8_split_8 : decode cX8_split 8 = .ok (.aload_n 0, 1) := by decide +kernel
theorem dX8_split_9 : decode cX8_split 9 = .ok (.getfield 28, 3) := by decide +kernel
theorem dX8_split_12 : decode cX8_split 12 = .ok (.if_icmp .ge 69, 3) := by decide +kernel
theorem dX8_split_15 : decode cX8_split 15 = .ok (.iload_n 1, 1) := by decide +kernel
theorem dX8_split_16 : decode cX8_split 16 = .ok (.istore_n 2, 1) := by decide +kernel
theorem dX8_split_17 : decode cX8_split 17 = .ok (.iinc 1 1, 3) := by decide +kernel
theorem dX8_split_20 : decode cX8_split 20 = .ok (.aload_n 0, 1) := by decide +kernel
theorem dX8_split_21 : decode cX8_split 21 = .ok (.getfield 9, 3) := by decide +kernel
theorem dX8_split_24 : decode cX8_split 24 = .ok (.iload_n 2, 1) := by decide +kernel
theorem dX8_split_25 : decode cX8_split 25 = .ok (.caload, 1) := by decide +kernel
theorem dX8_split_26 : decode cX8_split 26 = .ok (.bipush 32, 2) := by decide +kernel
theorem dX8_split_28 : decode cX8_split 28 = .ok (.if_icmp .ne 6, 3) := by decide +kernel
theorem dX8_split_31 : decode cX8_split 31 = .ok (.goto (-24), 3) := by decide +kernel
theorem dX8_split_34 : decode cX8_split 34 = .ok (.aload_n 0, 1) := by decide +kernel
theorem dX8_split_35 : decode cX8_split 35 = .ok (.getfield 9, 3) := by decide +kernel
theorem dX8_split_38 : decode cX8_split 38 = .ok (.iload_n 2, 1) := by decide +kernel
theorem dX8_split_39 : decode cX8_split 39 = .ok (.caload, 1) := by decide +kernel
theorem dX8_split_40 : decode cX8_split 40 = .ok (.invokestatic 39, 3) := by decide +kernel
theorem dX8_split_43 : decode cX8_split 43 = .ok (.ifCond .eq 29, 3) := by decide +kernel
theorem dX8_split_46 : decode cX8_split 46 = .ok (.iload_n 1, 1) := by decide +kernel
theorem dX8_split_47 : decode cX8_split 47 = .ok (.aload_n 0, 1) := by decide +kernel
theorem dX8_split_48 : decode cX8_split 48 = .ok (.getfield 28, 3) := by decide +kernel
theorem dX8_split_51 : decode cX8_split 51 = .ok (.if_icmp .ge 21, 3) := by decide +kernel
theorem dX8_split_54 : decode cX8_split 54 = .ok (.aload_n 0, 1) := by decide +kernel
theorem dX8_split_55 : decode cX8_split 55 = .ok (.getfield 9, 3) := by decide +kernel
theorem dX8_split_58 : decode cX8_split 58 = .ok (.iload_n 1, 1) := by decide +kernel
theorem dX8_split_59 : decode cX8_split 59 = .ok (.caload, 1) := by decide +kernel
theorem dX8_split_60 : decode cX8_split 60 = .ok (.invokestatic 39, 3) := by decide +kernel
theorem dX8_split_63 : decode cX8_split 63 = .ok (.ifCond .eq 9, 3) := by decide +kernel
theorem dX8_split_66 : decode cX8_split 66 = .ok (.iinc 1 1, 3) := by decide +kernel
theorem dX8_split_69 : decode cX8_split 69 = .ok (.goto (-23), 3) := by decide +kernel
theorem dX8_split_72 : decode cX8_split 72 = .ok (.aload_n 0, 1) := by decide +kernel
theorem dX8_split_73 : decode cX8_split 73 = .ok (.iload_n 2, 1) := by decide +kernel
theorem dX8_split_74 : decode cX8_split 74 = .ok (.iload_n 1, 1) := by decide +kernel
theorem dX8_split_75 : decode cX8_split 75 = .ok (.invokevirtual 43, 3) := by decide +kernel
theorem dX8_split_78 : decode cX8_split 78 = .ok (.goto (-71), 3) := by decide +kernel
theorem dX8_split_81 : decode cX8_split 81 = .ok (.aload_n 0, 1) := by decide +kernel
theorem dX8_split_82 : decode cX8_split 82 = .ok (.aload_n 0, 1) := by decide +kernel
theorem dX8_split_83 : decode cX8_split 83 = .ok (.getfield 28, 3) := by decide +kernel
theorem dX8_split_86 : decode cX8_split 86 = .ok (.aload_n 0, 1) := by decide +kernel
theorem dX8_split_87 : decode cX8_split 87 = .ok (.getfield 28, 3) := by decide +kernel
theorem dX8_split_90 : decode cX8_split 90 = .ok (.invokevirtual 43, 3) := by decide +kernel
theorem dX8_split_93 : decode cX8_split 93 = .ok (.return_, 1) := by decide +kernel
theorem dX8_addToken_0 : decode cX8_addToken 0 = .ok (.aload_n 0, 1) := by decide +kernel
theorem dX8_addToken_1 : decode cX8_addToken 1 = .ok (.getfield 36, 3) := by decide +kernel
theorem dX8_addToken_4 : decode cX8_addToken 4 = .ok (.bipush 121, 2) := by decide +kernel
theorem dX8_addToken_6 : decode cX8_addToken 6 = .ok (.if_icmp .ge 48, 3) := by decide +kernel
theorem dX8_addToken_9 : decode cX8_addToken 9 = .ok (.aload_n 0, 1) := by decide +kernel
theorem dX8_addToken_10 : decode cX8_addToken 10 = .ok (.getfield 15, 3) := by decide +kernel
theorem dX8_addToken_13 : decode cX8_addToken 13 = .ok (.aload_n 0, 1) := by decide +kernel
theorem dX8_addToken_14 : decode cX8_addToken 14 = .ok (.getfield 36, 3) := by decide +kernel
theorem dX8_addToken_17 : decode cX8_addToken 17 = .ok (.iload_n 1, 1) := by decide +kernel
theorem dX8_addToken_18 : decode cX8_addToken 18 = .ok (.iastore, 1) := by decide +kernel
theorem dX8_addToken_19 : decode cX8_addToken 19 = .ok (.aload_n 0, 1) := by decide +kernel
theorem dX8_addToken_20 : decode cX8_addToken 20 = .ok (.getfield 19, 3) := by decide +kernel
theorem dX8_addToken_23 : decode cX8_addToken 23 = .ok (.aload_n 0, 1) := by decide +kernel
theorem dX8_addToken_24 : decode cX8_addToken 24 = .ok (.getfield 36, 3) := by decide +kernel
theorem dX8_addToken_27 : decode cX8_addToken 27 = .ok (.iload_n 2, 1) := by decide +kernel
theorem dX8_addToken_28 : decode cX8_addToken 28 = .ok (.iastore, 1) := by decide +kernel
theorem dX8_addToken_29 : decode cX8_addToken 29 = .ok (.aload_n 0, 1) := by decide +kernel
theorem dX8_addToken_30 : decode cX8_addToken 30 = .ok (.getfield 24, 3) := by decide +kernel
theorem dX8_addToken_33 : decode cX8_addToken 33 = .ok (.aload_n 0, 1) := by decide +kernel
theorem dX8_addToken_34 : decode cX8_addToken 34 = .ok (.getfield 36, 3) := by decide +kernel
theorem dX8_addToken_37 : decode cX8_addToken 37 = .ok (.aload_n 0, 1) := by decide +kernel
theorem dX8_addToken_38 : decode cX8_addToken 38 = .ok (.iload_n 1, 1) := by decide +kernel
theorem dX8_addToken_39 : decode cX8_addToken 39 = .ok (.iload_n 2, 1) := by decide +kernel
theorem dX8_addToken_40 : decode cX8_addToken 40 = .ok (.invokevirtual 47, 3) := by decide +kernel
theorem dX8_addToken_43 : decode cX8_addToken 43 = .ok (.aastore, 1) := by decide +kernel
theorem dX8_addToken_44 : decode cX8_addToken 44 = .ok (.aload_n 0, 1) := by decide +kernel
theorem dX8_addToken_45 : decode cX8_addToken 45 = .ok (.dup, 1) := by decide +kernel
theorem dX8_addToken_46 : decode cX8_addToken 46 = .ok (.getfield 36, 3) := by decide +kernel
theorem dX8_addToken_49 : decode cX8_addToken 49 = .ok (.iconst 1, 1) := by decide +kernel
theorem dX8_addToken_50 : decode cX8_addToken 50 = .ok (.iadd, 1) := by decide +kernel
theorem dX8_addToken_51 : decode cX8_addToken 51 = .ok (.putfield 36, 3) := by decide +kernel
theorem dX8_addToken_54 : decode cX8_addToken 54 = .ok (.return_, 1) := by decide +kernel
theorem dX8_findWord_0 : decode cX8_findWord 0 = .ok (.getstatic 51, 3) := by decide +kernel
theorem dX8_findWord_3 : decode cX8_findWord 3 = .ok (.astore_n 3, 1) := by decide +kernel
theorem dX8_findWord_4 : decode cX8_findWord 4 = .ok (.aload_n 3, 1) := by decide +kernel
theorem dX8_findWord_5 : decode cX8_findWord 5 = .ok (.arraylength, 1) := by decide +kernel
theorem dX8_findWord_6 : decode cX8_findWord 6 = .ok (.istore 4, 2) := by decide +kernel
theorem dX8_findWord_8 : decode cX8_findWord 8 = .ok (.iconst 0, 1) := by decide +kernel
theorem dX8_findWord_9 : decode cX8_findWord 9 = .ok (.istore 5, 2) := by decide +kernel
theorem dX8_findWord_11 : decode cX8_findWord 11 = .ok (.iload 5, 2) := by decide +kernel
theorem dX8_findWord_13 : decode cX8_findWord 13 = .ok (.iload 4, 2) := by decide +kernel
theorem dX8_findWord_15 : decode cX8_findWord 15 = .ok (.if_icmp .ge 32, 3) := by decide +kernel
theorem dX8_findWord_18 : decode cX8_findWord 18 = .ok (.aload_n 3, 1) := by decide +kernel
theorem dX8_findWord_19 : decode cX8_findWord 19 = .ok (.iload 5, 2) := by decide +kernel
theorem dX8_findWord_21 : decode cX8_findWord 21 = .ok (.aaload, 1) := by decide +kernel
theorem dX8_findWord_22 : decode cX8_findWord 22 = .ok (.astore 6, 2) := by decide +kernel
theorem dX8_findWord_24 : decode cX8_findWord 24 = .ok (.aload_n 0, 1) := by decide +kernel
theorem dX8_findWord_25 : decode cX8_findWord 25 = .ok (.aload 6, 2) := by decide +kernel
theorem dX8_findWord_27 : decode cX8_findWord 27 = .ok (.getfield 54, 3) := by decide +kernel
theorem dX8_findWord_30 : decode cX8_findWord 30 = .ok (.iload_n 1, 1) := by decide +kernel
theorem dX8_findWord_31 : decode cX8_findWord 31 = .ok (.iload_n 2, 1) := by decide +kernel
theorem dX8_findWord_32 : decode cX8_findWord 32 = .ok (.invokevirtual 58, 3) := by decide +kernel
theorem dX8_findWord_35 : decode cX8_findWord 35 = .ok (.ifCond .eq 6, 3) := by decide +kernel
theorem dX8_findWord_38 : decode cX8_findWord 38 = .ok (.aload 6, 2) := by decide +kernel
theorem dX8_findWord_40 : decode cX8_findWord 40 = .ok (.areturn, 1) := by decide +kernel
theorem dX8_findWord_41 : decode cX8_findWord 41 = .ok (.iinc 5 1, 3) := by decide +kernel
theorem dX8_findWord_44 : decode cX8_findWord 44 = .ok (.goto (-33), 3) := by decide +kernel
theorem dX8_findWord_47 : decode cX8_findWord 47 = .ok (.aconst_null, 1) := by decide +kernel
theorem dX8_findWord_48 : decode cX8_findWord 48 = .ok (.areturn, 1) := by decide +kernel
theorem dX8_isSpelled_0 : decode cX8_isSpelled 0 = .ok (.aload_n 1, 1) := by decide +kernel
theorem dX8_isSpelled_1 : decode cX8_isSpelled 1 = .ok (.invokevirtual 62, 3) := by decide +kernel
theorem dX8_isSpelled_4 : decode cX8_isSpelled 4 = .ok (.iload_n 3, 1) := by decide +kernel
theorem dX8_isSpelled_5 : decode cX8_isSpelled 5 = .ok (.iload_n 2, 1) := by decide +kernel
theorem dX8_isSpelled_6 : decode cX8_isSpelled 6 = .ok (.isub, 1) := by decide +kernel
theorem dX8_isSpelled_7 : decode cX8_isSpelled 7 = .ok (.if_icmp .eq 5, 3) := by decide +kernel
theorem dX8_isSpelled_10 : decode cX8_isSpelled 10 = .ok (.iconst 0, 1) := by decide +kernel
theorem dX8_isSpelled_11 : decode cX8_isSpelled 11 = .ok (.ireturn, 1) := by decide +kernel
theorem dX8_isSpelled_12 : decode cX8_isSpelled 12 = .ok (.iload_n 2, 1) := by decide +kernel
theorem dX8_isSpelled_13 : decode cX8_isSpelled 13 = .ok (.istore 4, 2) := by decide +kernel
theorem dX8_isSpelled_15 : decode cX8_isSpelled 15 = .ok (.iload 4, 2) := by decide +kernel
theorem dX8_isSpelled_17 : decode cX8_isSpelled 17 = .ok (.iload_n 3, 1) := by decide +kernel
theorem dX8_isSpelled_18 : decode cX8_isSpelled 18 = .ok (.if_icmp .ge 29, 3) := by decide +kernel
theorem dX8_isSpelled_21 : decode cX8_isSpelled 21 = .ok (.aload_n 0, 1) := by decide +kernel
theorem dX8_isSpelled_22 : decode cX8_isSpelled 22 = .ok (.getfield 9, 3) := by decide +kernel
theorem dX8_isSpelled_25 : decode cX8_isSpelled 25 = .ok (.iload 4, 2) := by decide +kernel
theorem dX8_isSpelled_27 : decode cX8_isSpelled 27 = .ok (.caload, 1) := by decide +kernel
theorem dX8_isSpelled_28 : decode cX8_isSpelled 28 = .ok (.aload_n 1, 1) := by decide +kernel
theorem dX8_isSpelled_29 : decode cX8_isSpelled 29 = .ok (.iload 4, 2) := by decide +kernel
theorem dX8_isSpelled_31 : decode cX8_isSpelled 31 = .ok (.iload_n 2, 1) := by decide +kernel
theorem dX8_isSpelled_32 : decode cX8_isSpelled 32 = .ok (.isub, 1) := by decide +kernel
theorem dX8_isSpelled_33 : decode cX8_isSpelled 33 = .ok (.invokevirtual 67, 3) := by decide +kernel
theorem dX8_isSpelled_36 : decode cX8_isSpelled 36 = .ok (.if_icmp .eq 5, 3) := by decide +kernel
theorem dX8_isSpelled_39 : decode cX8_isSpelled 39 = .ok (.iconst 0, 1) := by decide +kernel
theorem dX8_isSpelled_40 : decode cX8_isSpelled 40 = .ok (.ireturn, 1) := by decide +kernel
theorem dX8_isSpelled_41 : decode cX8_isSpelled 41 = .ok (.iinc 4 1, 3) := by decide +kernel
theorem dX8_isSpelled_44 : decode cX8_isSpelled 44 = .ok (.goto (-29), 3) := by decide +kernel
theorem dX8_isSpelled_47 : decode cX8_isSpelled 47 = .ok (.iconst 1, 1) := by decide +kernel
theorem dX8_isSpelled_48 : decode cX8_isSpelled 48 = .ok (.ireturn, 1) := by decide +kernel
theorem dX8_isOfSymbol_0 : decode cX8_isOfSymbol 0 = .ok (.iload_n 0, 1) := by decide +kernel
theorem dX8_isOfSymbol_1 : decode cX8_isOfSymbol 1 = .ok (.invokestatic 71, 3) := by decide +kernel
theorem dX8_isOfSymbol_4 : decode cX8_isOfSymbol 4 = .ok (.ifCond .ne 40, 3) := by decide +kernel
theorem dX8_isOfSymbol_7 : decode cX8_isOfSymbol 7 = .ok (.iload_n 0, 1) := by decide +kernel
theorem dX8_isOfSymbol_8 : decode cX8_isOfSymbol 8 = .ok (.invokestatic 74, 3) := by decide +kernel
theorem dX8_isOfSymbol_11 : decode cX8_isOfSymbol 11 = .ok (.ifCond .ne 33, 3) := by decide +kernel
theorem dX8_isOfSymbol_14 : decode cX8_isOfSymbol 14 = .ok (.iload_n 0, 1) := by decide +kernel
theorem dX8_isOfSymbol_15 : decode cX8_isOfSymbol 15 = .ok (.bipush 45, 2) := by decide +kernel
theorem dX8_isOfSymbol_17 : decode cX8_isOfSymbol 17 = .ok (.if_icmp .eq 27, 3) := by decide +kernel
theorem dX8_isOfSymbol_20 : decode cX8_isOfSymbol 20 = .ok (.iload_n 0, 1) := by decide +kernel
theorem dX8_isOfSymbol_21 : decode cX8_isOfSymbol 21 = .ok (.bipush 95, 2) := by decide +kernel
theorem dX8_isOfSymbol_23 : decode cX8_isOfSymbol 23 = .ok (.if_icmp .eq 21, 3) := by decide +kernel
theorem dX8_isOfSymbol_26 : decode cX8_isOfSymbol 26 = .ok (.iload_n 0, 1) := by decide +kernel
theorem dX8_isOfSymbol_27 : decode cX8_isOfSymbol 27 = .ok (.bipush 61, 2) := by decide +kernel
theorem dX8_isOfSymbol_29 : decode cX8_isOfSymbol 29 = .ok (.if_icmp .eq 15, 3) := by decide +kernel
theorem dX8_isOfSymbol_32 : decode cX8_isOfSymbol 32 = .ok (.iload_n 0, 1) := by decide +kernel
theorem dX8_isOfSymbol_33 : decode cX8_isOfSymbol 33 = .ok (.bipush 62, 2) := by decide +kernel
theorem dX8_isOfSymbol_35 : decode cX8_isOfSymbol 35 = .ok (.if_icmp .eq 9, 3) := by decide +kernel
theorem dX8_isOfSymbol_38 : decode cX8_isOfSymbol 38 = .ok (.iload_n 0, 1) := by decide +kernel
theorem dX8_isOfSymbol_39 : decode cX8_isOfSymbol 39 = .ok (.bipush 35, 2) := by decide +kernel
theorem dX8_isOfSymbol_41 : decode cX8_isOfSymbol 41 = .ok (.if_icmp .ne 7, 3) := by decide +kernel
theorem dX8_isOfSymbol_44 : decode cX8_isOfSymbol 44 = .ok (.iconst 1, 1) := by decide +kernel
theorem dX8_isOfSymbol_45 : decode cX8_isOfSymbol 45 = .ok (.goto 4, 3) := by decide +kernel
theorem dX8_isOfSymbol_48 : decode cX8_isOfSymbol 48 = .ok (.iconst 0, 1) := by decide +kernel
theorem dX8_isOfSymbol_49 : decode cX8_isOfSymbol 49 = .ok (.ireturn, 1) := by decide +kernel
theorem dX8_isLetter_0 : decode cX8_isLetter 0 = .ok (.iload_n 0, 1) := by decide +kernel
theorem dX8_isLetter_1 : decode cX8_isLetter 1 = .ok (.bipush 97, 2) := by decide +kernel
theorem dX8_isLetter_3 : decode cX8_isLetter 3 = .ok (.if_icmp .lt 9, 3) := by decide +kernel
theorem dX8_isLetter_6 : decode cX8_isLetter 6 = .ok (.iload_n 0, 1) := by decide +kernel
theorem dX8_isLetter_7 : decode cX8_isLetter 7 = .ok (.bipush 122, 2) := by decide +kernel
theorem dX8_isLetter_9 : decode cX8_isLetter 9 = .ok (.if_icmp .le 15, 3) := by decide +kernel
theorem dX8_isLetter_12 : decode cX8_isLetter 12 = .ok (.iload_n 0, 1) := by decide +kernel
theorem dX8_isLetter_13 : decode cX8_isLetter 13 = .ok (.bipush 65, 2) := by decide +kernel
theorem dX8_isLetter_15 : decode cX8_isLetter 15 = .ok (.if_icmp .lt 13, 3) := by decide +kernel
theorem dX8_isLetter_18 : decode cX8_isLetter 18 = .ok (.iload_n 0, 1) := by decide +kernel
theorem dX8_isLetter_19 : decode cX8_isLetter 19 = .ok (.bipush 90, 2) := by decide +kernel
theorem dX8_isLetter_21 : decode cX8_isLetter 21 = .ok (.if_icmp .gt 7, 3) := by decide +kernel
theorem dX8_isLetter_24 : decode cX8_isLetter 24 = .ok (.iconst 1, 1) := by decide +kernel
theorem dX8_isLetter_25 : decode cX8_isLetter 25 = .ok (.goto 4, 3) := by decide +kernel
theorem dX8_isLetter_28 : decode cX8_isLetter 28 = .ok (.iconst 0, 1) := by decide +kernel
theorem dX8_isLetter_29 : decode cX8_isLetter 29 = .ok (.ireturn, 1) := by decide +kernel
theorem dX8_isDigit_0 : decode cX8_isDigit 0 = .ok (.iload_n 0, 1) := by decide +kernel
theorem dX8_isDigit_1 : decode cX8_isDigit 1 = .ok (.bipush 48, 2) := by decide +kernel
theorem dX8_isDigit_3 : decode cX8_isDigit 3 = .ok (.if_icmp .lt 13, 3) := by decide +kernel
theorem dX8_isDigit_6 : decode cX8_isDigit 6 = .ok (.iload_n 0, 1) := by decide +kernel
theorem dX8_isDigit_7 : decode cX8_isDigit 7 = .ok (.bipush 57, 2) := by decide +kernel
theorem dX8_isDigit_9 : decode cX8_isDigit 9 = .ok (.if_icmp .gt 7, 3) := by decide +kernel
theorem dX8_isDigit_12 : decode cX8_isDigit 12 = .ok (.iconst 1, 1) := by decide +kernel
theorem dX8_isDigit_13 : decode cX8_isDigit 13 = .ok (.goto 4, 3) := by decide +kernel
theorem dX8_isDigit_16 : decode cX8_isDigit 16 = .ok (.iconst 0, 1) := by decide +kernel
theorem dX8_isDigit_17 : decode cX8_isDigit 17 = .ok (.ireturn, 1) := by decide +kernel
theorem dX8_hasToken_0 : decode cX8_hasToken 0 = .ok (.iload_n 1, 1) := by decide +kernel
theorem dX8_hasToken_1 : decode cX8_hasToken 1 = .ok (.ifCond .lt 15, 3) := by decide +kernel
theorem dX8_hasToken_4 : decode cX8_hasToken 4 = .ok (.iload_n 1, 1) := by decide +kernel
theorem dX8_hasToken_5 : decode cX8_hasToken 5 = .ok (.aload_n 0, 1) := by decide +kernel
theorem dX8_hasToken_6 : decode cX8_hasToken 6 = .ok (.getfield 36, 3) := by decide +kernel
theorem dX8_hasToken_9 : decode cX8_hasToken 9 = .ok (.if_icmp .ge 7, 3) := by decide +kernel
theorem dX8_hasToken_12 : decode cX8_hasToken 12 = .ok (.iconst 1, 1) := by decide +kernel
theorem dX8_hasToken_13 : decode cX8_hasToken 13 = .ok (.goto 4, 3) := by decide +kernel
theorem dX8_hasToken_16 : decode cX8_hasToken 16 = .ok (.iconst 0, 1) := by decide +kernel
theorem dX8_hasToken_17 : decode cX8_hasToken 17 = .ok (.ireturn, 1) := by decide +kernel
theorem dX8_sizeOf_0 : decode cX8_sizeOf 0 = .ok (.aload_n 0, 1) := by decide +kernel
theorem dX8_sizeOf_1 : decode cX8_sizeOf 1 = .ok (.iload_n 1, 1) := by decide +kernel
theorem dX8_sizeOf_2 : decode cX8_sizeOf 2 = .ok (.invokevirtual 77, 3) := by decide +kernel
theorem dX8_sizeOf_5 : decode cX8_sizeOf 5 = .ok (.ifCond .eq 19, 3) := by decide +kernel
theorem dX8_sizeOf_8 : decode cX8_sizeOf 8 = .ok (.aload_n 0, 1) := by decide +kernel
theorem dX8_sizeOf_9 : decode cX8_sizeOf 9 = .ok (.getfield 19, 3) := by decide +kernel
theorem dX8_sizeOf_12 : decode cX8_sizeOf 12 = .ok (.iload_n 1, 1) := by decide +kernel
theorem dX8_sizeOf_13 : decode cX8_sizeOf 13 = .ok (.iaload, 1) := by decide +kernel
theorem dX8_sizeOf_14 : decode cX8_sizeOf 14 = .ok (.aload_n 0, 1) := by decide +kernel
theorem dX8_sizeOf_15 : decode cX8_sizeOf 15 = .ok (.getfield 15, 3) := by decide +kernel
theorem dX8_sizeOf_18 : decode cX8_sizeOf 18 = .ok (.iload_n 1, 1) := by decide +kernel
theorem dX8_sizeOf_19 : decode cX8_sizeOf 19 = .ok (.iaload, 1) := by decide +kernel
theorem dX8_sizeOf_20 : decode cX8_sizeOf 20 = .ok (.isub, 1) := by decide +kernel
theorem dX8_sizeOf_21 : decode cX8_sizeOf 21 = .ok (.goto 4, 3) := by decide +kernel
theorem dX8_sizeOf_24 : decode cX8_sizeOf 24 = .ok (.iconst 0, 1) := by decide +kernel
theorem dX8_sizeOf_25 : decode cX8_sizeOf 25 = .ok (.ireturn, 1) := by decide +kernel
theorem dX8_start_0 : decode cX8_start 0 = .ok (.aload_n 0, 1) := by decide +kernel
theorem dX8_start_1 : decode cX8_start 1 = .ok (.iload_n 1, 1) := by decide +kernel
theorem dX8_start_2 : decode cX8_start 2 = .ok (.invokevirtual 77, 3) := by decide +kernel
theorem dX8_start_5 : decode cX8_start 5 = .ok (.ifCond .eq 12, 3) := by decide +kernel
theorem dX8_start_8 : decode cX8_start 8 = .ok (.aload_n 0, 1) := by decide +kernel
theorem dX8_start_9 : decode cX8_start 9 = .ok (.getfield 15, 3) := by decide +kernel
theorem dX8_start_12 : decode cX8_start 12 = .ok (.iload_n 1, 1) := by decide +kernel
theorem dX8_start_13 : decode cX8_start 13 = .ok (.iaload, 1) := by decide +kernel
theorem dX8_start_14 : decode cX8_start 14 = .ok (.goto 7, 3) := by decide +kernel
theorem dX8_start_17 : decode cX8_start 17 = .ok (.aload_n 0, 1) := by decide +kernel
theorem dX8_start_18 : decode cX8_start 18 = .ok (.getfield 28, 3) := by decide +kernel
theorem dX8_start_21 : decode cX8_start 21 = .ok (.ireturn, 1) := by decide +kernel
theorem dX8_isBracket_0 : decode cX8_isBracket 0 = .ok (.iload_n 1, 1) := by decide +kernel
theorem dX8_isBracket_1 : decode cX8_isBracket 1 = .ok (.ifCond .lt 43, 3) := by decide +kernel
theorem dX8_isBracket_4 : decode cX8_isBracket 4 = .ok (.iload_n 1, 1) := by decide +kernel
theorem dX8_isBracket_5 : decode cX8_isBracket 5 = .ok (.aload_n 0, 1) := by decide +kernel
theorem dX8_isBracket_6 : decode cX8_isBracket 6 = .ok (.getfield 36, 3) := by decide +kernel
theorem dX8_isBracket_9 : decode cX8_isBracket 9 = .ok (.if_icmp .ge 35, 3) := by decide +kernel
theorem dX8_isBracket_12 : decode cX8_isBracket 12 = .ok (.aload_n 0, 1) := by decide +kernel
theorem dX8_isBracket_13 : decode cX8_isBracket 13 = .ok (.getfield 15, 3) := by decide +kernel
theorem dX8_isBracket_16 : decode cX8_isBracket 16 = .ok (.iload_n 1, 1) := by decide +kernel
theorem dX8_isBracket_17 : decode cX8_isBracket 17 = .ok (.iaload, 1) := by decide +kernel
theorem dX8_isBracket_18 : decode cX8_isBracket 18 = .ok (.aload_n 0, 1) := by decide +kernel
theorem dX8_isBracket_19 : decode cX8_isBracket 19 = .ok (.getfield 28, 3) := by decide +kernel
theorem dX8_isBracket_22 : decode cX8_isBracket 22 = .ok (.if_icmp .ge 22, 3) := by decide +kernel
theorem dX8_isBracket_25 : decode cX8_isBracket 25 = .ok (.aload_n 0, 1) := by decide +kernel
theorem dX8_isBracket_26 : decode cX8_isBracket 26 = .ok (.getfield 9, 3) := by decide +kernel
theorem dX8_isBracket_29 : decode cX8_isBracket 29 = .ok (.aload_n 0, 1) := by decide +kernel
theorem dX8_isBracket_30 : decode cX8_isBracket 30 = .ok (.getfield 15, 3) := by decide +kernel
theorem dX8_isBracket_33 : decode cX8_isBracket 33 = .ok (.iload_n 1, 1) := by decide +kernel
theorem dX8_isBracket_34 : decode cX8_isBracket 34 = .ok (.iaload, 1) := by decide +kernel
theorem dX8_isBracket_35 : decode cX8_isBracket 35 = .ok (.caload, 1) := by decide +kernel
theorem dX8_isBracket_36 : decode cX8_isBracket 36 = .ok (.iload_n 2, 1) := by decide +kernel
theorem dX8_isBracket_37 : decode cX8_isBracket 37 = .ok (.if_icmp .ne 7, 3) := by decide +kernel
theorem dX8_isBracket_40 : decode cX8_isBracket 40 = .ok (.iconst 1, 1) := by decide +kernel
theorem dX8_isBracket_41 : decode cX8_isBracket 41 = .ok (.goto 4, 3) := by decide +kernel
theorem dX8_isBracket_44 : decode cX8_isBracket 44 = .ok (.iconst 0, 1) := by decide +kernel
theorem dX8_isBracket_45 : decode cX8_isBracket 45 = .ok (.ireturn, 1) := by decide +kernel
theorem dX8_isEnd_0 : decode cX8_isEnd 0 = .ok (.aload_n 0, 1) := by decide +kernel
theorem dX8_isEnd_1 : decode cX8_isEnd 1 = .ok (.iload_n 1, 1) := by decide +kernel
theorem dX8_isEnd_2 : decode cX8_isEnd 2 = .ok (.invokevirtual 81, 3) := by decide +kernel
theorem dX8_isEnd_5 : decode cX8_isEnd 5 = .ok (.ifCond .ne 7, 3) := by decide +kernel
theorem dX8_isEnd_8 : decode cX8_isEnd 8 = .ok (.iconst 1, 1) := by decide +kernel
theorem dX8_isEnd_9 : decode cX8_isEnd 9 = .ok (.goto 4, 3) := by decide +kernel
theorem dX8_isEnd_12 : decode cX8_isEnd 12 = .ok (.iconst 0, 1) := by decide +kernel
theorem dX8_isEnd_13 : decode cX8_isEnd 13 = .ok (.ireturn, 1) := by decide +kernel
theorem dX8_wordAt_0 : decode cX8_wordAt 0 = .ok (.aload_n 0, 1) := by decide +kernel
theorem dX8_wordAt_1 : decode cX8_wordAt 1 = .ok (.iload_n 1, 1) := by decide +kernel
theorem dX8_wordAt_2 : decode cX8_wordAt 2 = .ok (.invokevirtual 77, 3) := by decide +kernel
theorem dX8_wordAt_5 : decode cX8_wordAt 5 = .ok (.ifCond .eq 12, 3) := by decide +kernel
theorem dX8_wordAt_8 : decode cX8_wordAt 8 = .ok (.aload_n 0, 1) := by decide +kernel
theorem dX8_wordAt_9 : decode cX8_wordAt 9 = .ok (.getfield 24, 3) := by decide +kernel
theorem dX8_wordAt_12 : decode cX8_wordAt 12 = .ok (.iload_n 1, 1) := by decide +kernel
theorem dX8_wordAt_13 : decode cX8_wordAt 13 = .ok (.aaload, 1) := by decide +kernel
theorem dX8_wordAt_14 : decode cX8_wordAt 14 = .ok (.goto 4, 3) := by decide +kernel
theorem dX8_wordAt_17 : decode cX8_wordAt 17 = .ok (.aconst_null, 1) := by decide +kernel
theorem dX8_wordAt_18 : decode cX8_wordAt 18 = .ok (.areturn, 1) := by decide +kernel
theorem dX8_nameAt_0 : decode cX8_nameAt 0 = .ok (.aload_n 0, 1) := by decide +kernel
theorem dX8_nameAt_1 : decode cX8_nameAt 1 = .ok (.iload_n 1, 1) := by decide +kernel
theorem dX8_nameAt_2 : decode cX8_nameAt 2 = .ok (.invokevirtual 81, 3) := by decide +kernel
theorem dX8_nameAt_5 : decode cX8_nameAt 5 = .ok (.istore_n 2, 1) := by decide +kernel
theorem dX8_nameAt_6 : decode cX8_nameAt 6 = .ok (.iload_n 2, 1) := by decide +kernel
theorem dX8_nameAt_7 : decode cX8_nameAt 7 = .ok (.iconst 1, 1) := by decide +kernel
theorem dX8_nameAt_8 : decode cX8_nameAt 8 = .ok (.if_icmp .lt 17, 3) := by decide +kernel
theorem dX8_nameAt_11 : decode cX8_nameAt 11 = .ok (.iload_n 2, 1) := by decide +kernel
theorem dX8_nameAt_12 : decode cX8_nameAt 12 = .ok (.iconst 4, 1) := by decide +kernel
theorem dX8_nameAt_13 : decode cX8_nameAt 13 = .ok (.if_icmp .gt 12, 3) := by decide +kernel
theorem dX8_nameAt_16 : decode cX8_nameAt 16 = .ok (.aload_n 0, 1) := by decide +kernel
theorem dX8_nameAt_17 : decode cX8_nameAt 17 = .ok (.getfield 24, 3) := by decide +kernel
theorem dX8_nameAt_20 : decode cX8_nameAt 20 = .ok (.iload_n 1, 1) := by decide +kernel
theorem dX8_nameAt_21 : decode cX8_nameAt 21 = .ok (.aaload, 1) := by decide +kernel
theorem dX8_nameAt_22 : decode cX8_nameAt 22 = .ok (.ifnull 5, 3) := by decide +kernel
theorem dX8_nameAt_25 : decode cX8_nameAt 25 = .ok (.iconst 0, 1) := by decide +kernel
theorem dX8_nameAt_26 : decode cX8_nameAt 26 = .ok (.ireturn, 1) := by decide +kernel
theorem dX8_nameAt_27 : decode cX8_nameAt 27 = .ok (.iconst 0, 1) := by decide +kernel
theorem dX8_nameAt_28 : decode cX8_nameAt 28 = .ok (.istore_n 3, 1) := by decide +kernel
theorem dX8_nameAt_29 : decode cX8_nameAt 29 = .ok (.aload_n 0, 1) := by decide +kernel
theorem dX8_nameAt_30 : decode cX8_nameAt 30 = .ok (.getfield 15, 3) := by decide +kernel
theorem dX8_nameAt_33 : decode cX8_nameAt 33 = .ok (.iload_n 1, 1) := by decide +kernel
theorem dX8_nameAt_34 : decode cX8_nameAt 34 = .ok (.iaload, 1) := by decide +kernel
theorem dX8_nameAt_35 : decode cX8_nameAt 35 = .ok (.istore 4, 2) := by decide +kernel
theorem dX8_nameAt_37 : decode cX8_nameAt 37 = .ok (.iload 4, 2) := by decide +kernel
theorem dX8_nameAt_39 : decode cX8_nameAt 39 = .ok (.aload_n 0, 1) := by decide +kernel
theorem dX8_nameAt_40 : decode cX8_nameAt 40 = .ok (.getfield 19, 3) := by decide +kernel
theorem dX8_nameAt_43 : decode cX8_nameAt 43 = .ok (.iload_n 1, 1) := by decide +kernel
theorem dX8_nameAt_44 : decode cX8_nameAt 44 = .ok (.iaload, 1) := by decide +kernel
theorem dX8_nameAt_45 : decode cX8_nameAt 45 = .ok (.if_icmp .ge 37, 3) := by decide +kernel
theorem dX8_nameAt_48 : decode cX8_nameAt 48 = .ok (.aload_n 0, 1) := by decide +kernel
theorem dX8_nameAt_49 : decode cX8_nameAt 49 = .ok (.getfield 9, 3) := by decide +kernel
theorem dX8_nameAt_52 : decode cX8_nameAt 52 = .ok (.iload 4, 2) := by decide +kernel
theorem dX8_nameAt_54 : decode cX8_nameAt 54 = .ok (.caload, 1) := by decide +kernel
theorem dX8_nameAt_55 : decode cX8_nameAt 55 = .ok (.invokestatic 71, 3) := by decide +kernel
theorem dX8_nameAt_58 : decode cX8_nameAt 58 = .ok (.ifCond .ne 5, 3) := by decide +kernel
theorem dX8_nameAt_61 : decode cX8_nameAt 61 = .ok (.iconst 0, 1) := by decide +kernel
theorem dX8_nameAt_62 : decode cX8_nameAt 62 = .ok (.ireturn, 1) := by decide +kernel
theorem dX8_nameAt_63 : decode cX8_nameAt 63 = .ok (.iload_n 3, 1) := by decide +kernel
theorem dX8_nameAt_64 : decode cX8_nameAt 64 = .ok (.bipush 8, 2) := by decide +kernel
theorem dX8_nameAt_66 : decode cX8_nameAt 66 = .ok (.ishl, 1) := by decide +kernel
theorem dX8_nameAt_67 : decode cX8_nameAt 67 = .ok (.aload_n 0, 1) := by decide +kernel
theorem dX8_nameAt_68 : decode cX8_nameAt 68 = .ok (.getfield 9, 3) := by decide +kernel
theorem dX8_nameAt_71 : decode cX8_nameAt 71 = .ok (.iload 4, 2) := by decide +kernel
theorem dX8_nameAt_73 : decode cX8_nameAt 73 = .ok (.caload, 1) := by decide +kernel
theorem dX8_nameAt_74 : decode cX8_nameAt 74 = .ok (.ior, 1) := by decide +kernel
theorem dX8_nameAt_75 : decode cX8_nameAt 75 = .ok (.istore_n 3, 1) := by decide +kernel
theorem dX8_nameAt_76 : decode cX8_nameAt 76 = .ok (.iinc 4 1, 3) := by decide +kernel
theorem dX8_nameAt_79 : decode cX8_nameAt 79 = .ok (.goto (-42), 3) := by decide +kernel
theorem dX8_nameAt_82 : decode cX8_nameAt 82 = .ok (.iload_n 3, 1) := by decide +kernel
theorem dX8_nameAt_83 : decode cX8_nameAt 83 = .ok (.ireturn, 1) := by decide +kernel
theorem dX8_numberAt_0 : decode cX8_numberAt 0 = .ok (.aload_n 0, 1) := by decide +kernel
theorem dX8_numberAt_1 : decode cX8_numberAt 1 = .ok (.iload_n 1, 1) := by decide +kernel
theorem dX8_numberAt_2 : decode cX8_numberAt 2 = .ok (.invokevirtual 81, 3) := by decide +kernel
theorem dX8_numberAt_5 : decode cX8_numberAt 5 = .ok (.istore_n 2, 1) := by decide +kernel
theorem dX8_numberAt_6 : decode cX8_numberAt 6 = .ok (.iload_n 2, 1) := by decide +kernel
theorem dX8_numberAt_7 : decode cX8_numberAt 7 = .ok (.iconst 1, 1) := by decide +kernel
theorem dX8_numberAt_8 : decode cX8_numberAt 8 = .ok (.if_icmp .lt 29, 3) := by decide +kernel
theorem dX8_numberAt_11 : decode cX8_numberAt 11 = .ok (.iload_n 2, 1) := by decide +kernel
theorem dX8_numberAt_12 : decode cX8_numberAt 12 = .ok (.iconst 2, 1) := by decide +kernel
theorem dX8_numberAt_13 : decode cX8_numberAt 13 = .ok (.if_icmp .gt 24, 3) := by decide +kernel
theorem dX8_numberAt_16 : decode cX8_numberAt 16 = .ok (.iload_n 2, 1) := by decide +kernel
theorem dX8_numberAt_17 : decode cX8_numberAt 17 = .ok (.iconst 2, 1) := by decide +kernel
theorem dX8_numberAt_18 : decode cX8_numberAt 18 = .ok (.if_icmp .ne 21, 3) := by decide +kernel
theorem dX8_numberAt_21 : decode cX8_numberAt 21 = .ok (.aload_n 0, 1) := by decide +kernel
theorem dX8_numberAt_22 : decode cX8_numberAt 22 = .ok (.getfield 9, 3) := by decide +kernel
theorem dX8_numberAt_25 : decode cX8_numberAt 25 = .ok (.aload_n 0, 1) := by decide +kernel
theorem dX8_numberAt_26 : decode cX8_numberAt 26 = .ok (.getfield 15, 3) := by decide +kernel
theorem dX8_numberAt_29 : decode cX8_numberAt 29 = .ok (.iload_n 1, 1) := by decide +kernel
theorem dX8_numberAt_30 : decode cX8_numberAt 30 = .ok (.iaload, 1) := by decide +kernel
theorem dX8_numberAt_31 : decode cX8_numberAt 31 = .ok (.caload, 1) := by decide +kernel
theorem dX8_numberAt_32 : decode cX8_numberAt 32 = .ok (.bipush 48, 2) := by decide +kernel
theorem dX8_numberAt_34 : decode cX8_numberAt 34 = .ok (.if_icmp .ne 5, 3) := by decide +kernel
