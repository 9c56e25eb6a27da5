theorem dX8_numberAt_37 : decode cX8_numberAt 37 = .ok (.iconst (-1), 1) := by decide +kernel
theorem dX8_numberAt_38 : decode cX8_numberAt 38 = .ok (.ireturn, 1) := by decide +kernel
theorem dX8_numberAt_39 : decode cX8_numberAt 39 = .ok (.iconst 0, 1) := by decide +kernel
theorem dX8_numberAt_40 : decode cX8_numberAt 40 = .ok (.istore_n 3, 1) := by decide +kernel
theorem dX8_numberAt_41 : decode cX8_numberAt 41 = .ok (.aload_n 0, 1) := by decide +kernel
theorem dX8_numberAt_42 : decode cX8_numberAt 42 = .ok (.getfield 15, 3) := by decide +kernel
theorem dX8_numberAt_45 : decode cX8_numberAt 45 = .ok (.iload_n 1, 1) := by decide +kernel
theorem dX8_numberAt_46 : decode cX8_numberAt 46 = .ok (.iaload, 1) := by decide +kernel
theorem dX8_numberAt_47 : decode cX8_numberAt 47 = .ok (.istore 4, 2) := by decide +kernel
theorem dX8_numberAt_49 : decode cX8_numberAt 49 = .ok (.iload 4, 2) := by decide +kernel
theorem dX8_numberAt_51 : decode cX8_numberAt 51 = .ok (.aload_n 0, 1) := by decide +kernel
theorem dX8_numberAt_52 : decode cX8_numberAt 52 = .ok (.getfield 19, 3) := by decide +kernel
theorem dX8_numberAt_55 : decode cX8_numberAt 55 = .ok (.iload_n 1, 1) := by decide +kernel
theorem dX8_numberAt_56 : decode cX8_numberAt 56 = .ok (.iaload, 1) := by decide +kernel
theorem dX8_numberAt_57 : decode cX8_numberAt 57 = .ok (.if_icmp .ge 40, 3) := by decide +kernel
theorem dX8_numberAt_60 : decode cX8_numberAt 60 = .ok (.aload_n 0, 1) := by decide +kernel
theorem dX8_numberAt_61 : decode cX8_numberAt 61 = .ok (.getfield 9, 3) := by decide +kernel
theorem dX8_numberAt_64 : decode cX8_numberAt 64 = .ok (.iload 4, 2) := by decide +kernel
theorem dX8_numberAt_66 : decode cX8_numberAt 66 = .ok (.caload, 1) := by decide +kernel
theorem dX8_numberAt_67 : decode cX8_numberAt 67 = .ok (.invokestatic 74, 3) := by decide +kernel
theorem dX8_numberAt_70 : decode cX8_numberAt 70 = .ok (.ifCond .ne 5, 3) := by decide +kernel
theorem dX8_numberAt_73 : decode cX8_numberAt 73 = .ok (.iconst (-1), 1) := by decide +kernel
theorem dX8_numberAt_74 : decode cX8_numberAt 74 = .ok (.ireturn, 1) := by decide +kernel
theorem dX8_numberAt_75 : decode cX8_numberAt 75 = .ok (.bipush 10, 2) := by decide +kernel
theorem dX8_numberAt_77 : decode cX8_numberAt 77 = .ok (.iload_n 3, 1) := by decide +kernel
theorem dX8_numberAt_78 : decode cX8_numberAt 78 = .ok (.imul, 1) := by decide +kernel
theorem dX8_numberAt_79 : decode cX8_numberAt 79 = .ok (.aload_n 0, 1) := by decide +kernel
theorem dX8_numberAt_80 : decode cX8_numberAt 80 = .ok (.getfield 9, 3) := by decide +kernel
theorem dX8_numberAt_83 : decode cX8_numberAt 83 = .ok (.iload 4, 2) := by decide +kernel
theorem dX8_numberAt_85 : decode cX8_numberAt 85 = .ok (.caload, 1) := by decide +kernel
theorem dX8_numberAt_86 : decode cX8_numberAt 86 = .ok (.iadd, 1) := by decide +kernel
theorem dX8_numberAt_87 : decode cX8_numberAt 87 = .ok (.bipush 48, 2) := by decide +kernel
theorem dX8_numberAt_89 : decode cX8_numberAt 89 = .ok (.isub, 1) := by decide +kernel
theorem dX8_numberAt_90 : decode cX8_numberAt 90 = .ok (.istore_n 3, 1) := by decide +kernel
theorem dX8_numberAt_91 : decode cX8_numberAt 91 = .ok (.iinc 4 1, 3) := by decide +kernel
theorem dX8_numberAt_94 : decode cX8_numberAt 94 = .ok (.goto (-45), 3) := by decide +kernel
theorem dX8_numberAt_97 : decode cX8_numberAt 97 = .ok (.iload_n 3, 1) := by decide +kernel
theorem dX8_numberAt_98 : decode cX8_numberAt 98 = .ok (.ireturn, 1) := by decide +kernel
theorem dX8_widthAt_0 : decode cX8_widthAt 0 = .ok (.aload_n 0, 1) := by decide +kernel
theorem dX8_widthAt_1 : decode cX8_widthAt 1 = .ok (.iload_n 1, 1) := by decide +kernel
theorem dX8_widthAt_2 : decode cX8_widthAt 2 = .ok (.invokevirtual 81, 3) := by decide +kernel
theorem dX8_widthAt_5 : decode cX8_widthAt 5 = .ok (.iconst 2, 1) := by decide +kernel
theorem dX8_widthAt_6 : decode cX8_widthAt 6 = .ok (.isub, 1) := by decide +kernel
theorem dX8_widthAt_7 : decode cX8_widthAt 7 = .ok (.istore_n 2, 1) := by decide +kernel
theorem dX8_widthAt_8 : decode cX8_widthAt 8 = .ok (.iload_n 2, 1) := by decide +kernel
theorem dX8_widthAt_9 : decode cX8_widthAt 9 = .ok (.iconst 1, 1) := by decide +kernel
theorem dX8_widthAt_10 : decode cX8_widthAt 10 = .ok (.if_icmp .lt 42, 3) := by decide +kernel
theorem dX8_widthAt_13 : decode cX8_widthAt 13 = .ok (.iload_n 2, 1) := by decide +kernel
theorem dX8_widthAt_14 : decode cX8_widthAt 14 = .ok (.iconst 4, 1) := by decide +kernel
theorem dX8_widthAt_15 : decode cX8_widthAt 15 = .ok (.if_icmp .gt 37, 3) := by decide +kernel
theorem dX8_widthAt_18 : decode cX8_widthAt 18 = .ok (.aload_n 0, 1) := by decide +kernel
theorem dX8_widthAt_19 : decode cX8_widthAt 19 = .ok (.getfield 9, 3) := by decide +kernel
theorem dX8_widthAt_22 : decode cX8_widthAt 22 = .ok (.aload_n 0, 1) := by decide +kernel
theorem dX8_widthAt_23 : decode cX8_widthAt 23 = .ok (.getfield 15, 3) := by decide +kernel
theorem dX8_widthAt_26 : decode cX8_widthAt 26 = .ok (.iload_n 1, 1) := by decide +kernel
theorem dX8_widthAt_27 : decode cX8_widthAt 27 = .ok (.iaload, 1) := by decide +kernel
theorem dX8_widthAt_28 : decode cX8_widthAt 28 = .ok (.caload, 1) := by decide +kernel
theorem dX8_widthAt_29 : decode cX8_widthAt 29 = .ok (.bipush 35, 2) := by decide +kernel
theorem dX8_widthAt_31 : decode cX8_widthAt 31 = .ok (.if_icmp .ne 21, 3) := by decide +kernel
theorem dX8_widthAt_34 : decode cX8_widthAt 34 = .ok (.aload_n 0, 1) := by decide +kernel
theorem dX8_widthAt_35 : decode cX8_widthAt 35 = .ok (.getfield 9, 3) := by decide +kernel
theorem dX8_widthAt_38 : decode cX8_widthAt 38 = .ok (.aload_n 0, 1) := by decide +kernel
theorem dX8_widthAt_39 : decode cX8_widthAt 39 = .ok (.getfield 15, 3) := by decide +kernel
theorem dX8_widthAt_42 : decode cX8_widthAt 42 = .ok (.iload_n 1, 1) := by decide +kernel
theorem dX8_widthAt_43 : decode cX8_widthAt 43 = .ok (.iaload, 1) := by decide +kernel
theorem dX8_widthAt_44 : decode cX8_widthAt 44 = .ok (.iconst 1, 1) := by decide +kernel
theorem dX8_widthAt_45 : decode cX8_widthAt 45 = .ok (.iadd, 1) := by decide +kernel
theorem dX8_widthAt_46 : decode cX8_widthAt 46 = .ok (.caload, 1) := by decide +kernel
theorem dX8_widthAt_47 : decode cX8_widthAt 47 = .ok (.bipush 98, 2) := by decide +kernel
theorem dX8_widthAt_49 : decode cX8_widthAt 49 = .ok (.if_icmp .eq 5, 3) := by decide +kernel
theorem dX8_widthAt_52 : decode cX8_widthAt 52 = .ok (.iconst 0, 1) := by decide +kernel
theorem dX8_widthAt_53 : decode cX8_widthAt 53 = .ok (.ireturn, 1) := by decide +kernel
theorem dX8_widthAt_54 : decode cX8_widthAt 54 = .ok (.aload_n 0, 1) := by decide +kernel
theorem dX8_widthAt_55 : decode cX8_widthAt 55 = .ok (.getfield 15, 3) := by decide +kernel
theorem dX8_widthAt_58 : decode cX8_widthAt 58 = .ok (.iload_n 1, 1) := by decide +kernel
theorem dX8_widthAt_59 : decode cX8_widthAt 59 = .ok (.iaload, 1) := by decide +kernel
theorem dX8_widthAt_60 : decode cX8_widthAt 60 = .ok (.iconst 2, 1) := by decide +kernel
theorem dX8_widthAt_61 : decode cX8_widthAt 61 = .ok (.iadd, 1) := by decide +kernel
theorem dX8_widthAt_62 : decode cX8_widthAt 62 = .ok (.istore_n 3, 1) := by decide +kernel
theorem dX8_widthAt_63 : decode cX8_widthAt 63 = .ok (.iload_n 3, 1) := by decide +kernel
theorem dX8_widthAt_64 : decode cX8_widthAt 64 = .ok (.aload_n 0, 1) := by decide +kernel
theorem dX8_widthAt_65 : decode cX8_widthAt 65 = .ok (.getfield 19, 3) := by decide +kernel
theorem dX8_widthAt_68 : decode cX8_widthAt 68 = .ok (.iload_n 1, 1) := by decide +kernel
theorem dX8_widthAt_69 : decode cX8_widthAt 69 = .ok (.iaload, 1) := by decide +kernel
theorem dX8_widthAt_70 : decode cX8_widthAt 70 = .ok (.if_icmp .ge 33, 3) := by decide +kernel
theorem dX8_widthAt_73 : decode cX8_widthAt 73 = .ok (.aload_n 0, 1) := by decide +kernel
theorem dX8_widthAt_74 : decode cX8_widthAt 74 = .ok (.getfield 9, 3) := by decide +kernel
theorem dX8_widthAt_77 : decode cX8_widthAt 77 = .ok (.iload_n 3, 1) := by decide +kernel
theorem dX8_widthAt_78 : decode cX8_widthAt 78 = .ok (.caload, 1) := by decide +kernel
theorem dX8_widthAt_79 : decode cX8_widthAt 79 = .ok (.bipush 48, 2) := by decide +kernel
theorem dX8_widthAt_81 : decode cX8_widthAt 81 = .ok (.if_icmp .eq 16, 3) := by decide +kernel
theorem dX8_widthAt_84 : decode cX8_widthAt 84 = .ok (.aload_n 0, 1) := by decide +kernel
theorem dX8_widthAt_85 : decode cX8_widthAt 85 = .ok (.getfield 9, 3) := by decide +kernel
theorem dX8_widthAt_88 : decode cX8_widthAt 88 = .ok (.iload_n 3, 1) := by decide +kernel
theorem dX8_widthAt_89 : decode cX8_widthAt 89 = .ok (.caload, 1) := by decide +kernel
theorem dX8_widthAt_90 : decode cX8_widthAt 90 = .ok (.bipush 49, 2) := by decide +kernel
theorem dX8_widthAt_92 : decode cX8_widthAt 92 = .ok (.if_icmp .eq 5, 3) := by decide +kernel
theorem dX8_widthAt_95 : decode cX8_widthAt 95 = .ok (.iconst 0, 1) := by decide +kernel
theorem dX8_widthAt_96 : decode cX8_widthAt 96 = .ok (.ireturn, 1) := by decide +kernel
theorem dX8_widthAt_97 : decode cX8_widthAt 97 = .ok (.iinc 3 1, 3) := by decide +kernel
theorem dX8_widthAt_100 : decode cX8_widthAt 100 = .ok (.goto (-37), 3) := by decide +kernel
theorem dX8_widthAt_103 : decode cX8_widthAt 103 = .ok (.iload_n 2, 1) := by decide +kernel
theorem dX8_widthAt_104 : decode cX8_widthAt 104 = .ok (.ireturn, 1) := by decide +kernel
theorem dX8_bitsAt_0 : decode cX8_bitsAt 0 = .ok (.iconst 0, 1) := by decide +kernel
theorem dX8_bitsAt_1 : decode cX8_bitsAt 1 = .ok (.istore_n 3, 1) := by decide +kernel
theorem dX8_bitsAt_2 : decode cX8_bitsAt 2 = .ok (.aload_n 0, 1) := by decide +kernel
theorem dX8_bitsAt_3 : decode cX8_bitsAt 3 = .ok (.iload_n 1, 1) := by decide +kernel
theorem dX8_bitsAt_4 : decode cX8_bitsAt 4 = .ok (.invokevirtual 81, 3) := by decide +kernel
theorem dX8_bitsAt_7 : decode cX8_bitsAt 7 = .ok (.iload_n 2, 1) := by decide +kernel
theorem dX8_bitsAt_8 : decode cX8_bitsAt 8 = .ok (.if_icmp .le 45, 3) := by decide +kernel
theorem dX8_bitsAt_11 : decode cX8_bitsAt 11 = .ok (.aload_n 0, 1) := by decide +kernel
theorem dX8_bitsAt_12 : decode cX8_bitsAt 12 = .ok (.getfield 19, 3) := by decide +kernel
theorem dX8_bitsAt_15 : decode cX8_bitsAt 15 = .ok (.iload_n 1, 1) := by decide +kernel
theorem dX8_bitsAt_16 : decode cX8_bitsAt 16 = .ok (.iaload, 1) := by decide +kernel
theorem dX8_bitsAt_17 : decode cX8_bitsAt 17 = .ok (.iload_n 2, 1) := by decide +kernel
theorem dX8_bitsAt_18 : decode cX8_bitsAt 18 = .ok (.isub, 1) := by decide +kernel
theorem dX8_bitsAt_19 : decode cX8_bitsAt 19 = .ok (.istore 4, 2) := by decide +kernel
theorem dX8_bitsAt_21 : decode cX8_bitsAt 21 = .ok (.iload 4, 2) := by decide +kernel
theorem dX8_bitsAt_23 : decode cX8_bitsAt 23 = .ok (.aload_n 0, 1) := by decide +kernel
theorem dX8_bitsAt_24 : decode cX8_bitsAt 24 = .ok (.getfield 19, 3) := by decide +kernel
theorem dX8_bitsAt_27 : decode cX8_bitsAt 27 = .ok (.iload_n 1, 1) := by decide +kernel
theorem dX8_bitsAt_28 : decode cX8_bitsAt 28 = .ok (.iaload, 1) := by decide +kernel
theorem dX8_bitsAt_29 : decode cX8_bitsAt 29 = .ok (.if_icmp .ge 24, 3) := by decide +kernel
theorem dX8_bitsAt_32 : decode cX8_bitsAt 32 = .ok (.iconst 2, 1) := by decide +kernel
theorem dX8_bitsAt_33 : decode cX8_bitsAt 33 = .ok (.iload_n 3, 1) := by decide +kernel
theorem dX8_bitsAt_34 : decode cX8_bitsAt 34 = .ok (.imul, 1) := by decide +kernel
theorem dX8_bitsAt_35 : decode cX8_bitsAt 35 = .ok (.aload_n 0, 1) := by decide +kernel
theorem dX8_bitsAt_36 : decode cX8_bitsAt 36 = .ok (.getfield 9, 3) := by decide +kernel
theorem dX8_bitsAt_39 : decode cX8_bitsAt 39 = .ok (.iload 4, 2) := by decide +kernel
theorem dX8_bitsAt_41 : decode cX8_bitsAt 41 = .ok (.caload, 1) := by decide +kernel
theorem dX8_bitsAt_42 : decode cX8_bitsAt 42 = .ok (.iadd, 1) := by decide +kernel
theorem dX8_bitsAt_43 : decode cX8_bitsAt 43 = .ok (.bipush 48, 2) := by decide +kernel
theorem dX8_bitsAt_45 : decode cX8_bitsAt 45 = .ok (.isub, 1) := by decide +kernel
theorem dX8_bitsAt_46 : decode cX8_bitsAt 46 = .ok (.istore_n 3, 1) := by decide +kernel
theorem dX8_bitsAt_47 : decode cX8_bitsAt 47 = .ok (.iinc 4 1, 3) := by decide +kernel
theorem dX8_bitsAt_50 : decode cX8_bitsAt 50 = .ok (.goto (-29), 3) := by decide +kernel
theorem dX8_bitsAt_53 : decode cX8_bitsAt 53 = .ok (.iload_n 3, 1) := by decide +kernel
theorem dX8_bitsAt_54 : decode cX8_bitsAt 54 = .ok (.ireturn, 1) := by decide +kernel
theorem dX9_isHeavy_0 : decode cX9_isHeavy 0 = .ok (.aload_n 0, 1) := by decide +kernel
theorem dX9_isHeavy_1 : decode cX9_isHeavy 1 = .ok (.getstatic 84, 3) := by decide +kernel
theorem dX9_isHeavy_4 : decode cX9_isHeavy 4 = .ok (.if_acmp .eq 17, 3) := by decide +kernel
theorem dX9_isHeavy_7 : decode cX9_isHeavy 7 = .ok (.aload_n 0, 1) := by decide +kernel
theorem dX9_isHeavy_8 : decode cX9_isHeavy 8 = .ok (.getstatic 87, 3) := by decide +kernel
theorem dX9_isHeavy_11 : decode cX9_isHeavy 11 = .ok (.if_acmp .eq 10, 3) := by decide +kernel
theorem dX9_isHeavy_14 : decode cX9_isHeavy 14 = .ok (.aload_n 0, 1) := by decide +kernel
theorem dX9_isHeavy_15 : decode cX9_isHeavy 15 = .ok (.getstatic 90, 3) := by decide +kernel
theorem dX9_isHeavy_18 : decode cX9_isHeavy 18 = .ok (.if_acmp .ne 7, 3) := by decide +kernel
theorem dX9_isHeavy_21 : decode cX9_isHeavy 21 = .ok (.iconst 1, 1) := by decide +kernel
theorem dX9_isHeavy_22 : decode cX9_isHeavy 22 = .ok (.goto 4, 3) := by decide +kernel
theorem dX9_isHeavy_25 : decode cX9_isHeavy 25 = .ok (.iconst 0, 1) := by decide +kernel
theorem dX9_isHeavy_26 : decode cX9_isHeavy 26 = .ok (.ireturn, 1) := by decide +kernel
theorem dX9_takesNumbers_0 : decode cX9_takesNumbers 0 = .ok (.aload_n 0, 1) := by decide +kernel
theorem dX9_takesNumbers_1 : decode cX9_takesNumbers 1 = .ok (.getfield 155, 3) := by decide +kernel
theorem dX9_takesNumbers_4 : decode cX9_takesNumbers 4 = .ok (.bipush 7, 2) := by decide +kernel
theorem dX9_takesNumbers_6 : decode cX9_takesNumbers 6 = .ok (.if_icmp .eq 12, 3) := by decide +kernel
theorem dX9_takesNumbers_9 : decode cX9_takesNumbers 9 = .ok (.aload_n 0, 1) := by decide +kernel
theorem dX9_takesNumbers_10 : decode cX9_takesNumbers 10 = .ok (.getfield 155, 3) := by decide +kernel
theorem dX9_takesNumbers_13 : decode cX9_takesNumbers 13 = .ok (.bipush 8, 2) := by decide +kernel
theorem dX9_takesNumbers_15 : decode cX9_takesNumbers 15 = .ok (.if_icmp .ne 7, 3) := by decide +kernel
theorem dX9_takesNumbers_18 : decode cX9_takesNumbers 18 = .ok (.iconst 1, 1) := by decide +kernel
theorem dX9_takesNumbers_19 : decode cX9_takesNumbers 19 = .ok (.goto 4, 3) := by decide +kernel
theorem dX9_takesNumbers_22 : decode cX9_takesNumbers 22 = .ok (.iconst 0, 1) := by decide +kernel
theorem dX9_takesNumbers_23 : decode cX9_takesNumbers 23 = .ok (.ireturn, 1) := by decide +kernel
theorem dX10_init_0 : decode cX10_init 0 = .ok (.aload_n 0, 1) := by decide +kernel
theorem dX10_init_1 : decode cX10_init 1 = .ok (.invokespecial 3, 3) := by decide +kernel
theorem dX10_init_4 : decode cX10_init 4 = .ok (.aload_n 0, 1) := by decide +kernel
theorem dX10_init_5 : decode cX10_init 5 = .ok (.new 9, 3) := by decide +kernel
theorem dX10_init_8 : decode cX10_init 8 = .ok (.dup, 1) := by decide +kernel
theorem dX10_init_9 : decode cX10_init 9 = .ok (.invokespecial 11, 3) := by decide +kernel
theorem dX10_init_12 : decode cX10_init 12 = .ok (.putfield 12, 3) := by decide +kernel
theorem dX10_init_15 : decode cX10_init 15 = .ok (.aload_n 0, 1) := by decide +kernel
theorem dX10_init_16 : decode cX10_init 16 = .ok (.new 16, 3) := by decide +kernel
theorem dX10_init_19 : decode cX10_init 19 = .ok (.dup, 1) := by decide +kernel
theorem dX10_init_20 : decode cX10_init 20 = .ok (.invokespecial 18, 3) := by decide +kernel
theorem dX10_init_23 : decode cX10_init 23 = .ok (.putfield 19, 3) := by decide +kernel
theorem dX10_init_26 : decode cX10_init 26 = .ok (.aload_n 0, 1) := by decide +kernel
theorem dX10_init_27 : decode cX10_init 27 = .ok (.new 23, 3) := by decide +kernel
theorem dX10_init_30 : decode cX10_init 30 = .ok (.dup, 1) := by decide +kernel
theorem dX10_init_31 : decode cX10_init 31 = .ok (.invokespecial 25, 3) := by decide +kernel
theorem dX10_init_34 : decode cX10_init 34 = .ok (.putfield 26, 3) := by decide +kernel
theorem dX10_init_37 : decode cX10_init 37 = .ok (.aload_n 0, 1) := by decide +kernel
theorem dX10_init_38 : decode cX10_init 38 = .ok (.new 30, 3) := by decide +kernel
theorem dX10_init_41 : decode cX10_init 41 = .ok (.dup, 1) := by decide +kernel
theorem dX10_init_42 : decode cX10_init 42 = .ok (.aload_n 0, 1) := by decide +kernel
theorem dX10_init_43 : decode cX10_init 43 = .ok (.getfield 12, 3) := by decide +kernel
theorem dX10_init_46 : decode cX10_init 46 = .ok (.aload_n 0, 1) := by decide +kernel
theorem dX10_init_47 : decode cX10_init 47 = .ok (.getfield 19, 3) := by decide +kernel
theorem dX10_init_50 : decode cX10_init 50 = .ok (.aload_n 0, 1) := by decide +kernel
theorem dX10_init_51 : decode cX10_init 51 = .ok (.getfield 26, 3) := by decide +kernel
theorem dX10_init_54 : decode cX10_init 54 = .ok (.invokespecial 32, 3) := by decide +kernel
theorem dX10_init_57 : decode cX10_init 57 = .ok (.putfield 35, 3) := by decide +kernel
theorem dX10_init_60 : decode cX10_init 60 = .ok (.aload_n 0, 1) := by decide +kernel
theorem dX10_init_61 : decode cX10_init 61 = .ok (.new 39, 3) := by decide +kernel
theorem dX10_init_64 : decode cX10_init 64 = .ok (.dup, 1) := by decide +kernel
theorem dX10_init_65 : decode cX10_init 65 = .ok (.invokespecial 41, 3) := by decide +kernel
theorem dX10_init_68 : decode cX10_init 68 = .ok (.putfield 42, 3) := by decide +kernel
theorem dX10_init_71 : decode cX10_init 71 = .ok (.aload_n 0, 1) := by decide +kernel
theorem dX10_init_72 : decode cX10_init 72 = .ok (.new 46, 3) := by decide +kernel
theorem dX10_init_75 : decode cX10_init 75 = .ok (.dup, 1) := by decide +kernel
theorem dX10_init_76 : decode cX10_init 76 = .ok (.aload_n 0, 1) := by decide +kernel
theorem dX10_init_77 : decode cX10_init 77 = .ok (.getfield 19, 3) := by decide +kernel
theorem dX10_init_80 : decode cX10_init 80 = .ok (.aload_n 0, 1) := by decide +kernel
theorem dX10_init_81 : decode cX10_init 81 = .ok (.getfield 42, 3) := by decide +kernel
theorem dX10_init_84 : decode cX10_init 84 = .ok (.invokespecial 48, 3) := by decide +kernel
theorem dX10_init_87 : decode cX10_init 87 = .ok (.putfield 51, 3) := by decide +kernel
theorem dX10_init_90 : decode cX10_init 90 = .ok (.aload_n 0, 1) := by decide +kernel
theorem dX10_init_91 : decode cX10_init 91 = .ok (.new 55, 3) := by decide +kernel
theorem dX10_init_94 : decode cX10_init 94 = .ok (.dup, 1) := by decide +kernel
theorem dX10_init_95 : decode cX10_init 95 = .ok (.aload_n 0, 1) := by decide +kernel
theorem dX10_init_96 : decode cX10_init 96 = .ok (.getfield 42, 3) := by decide +kernel
theorem dX10_init_99 : decode cX10_init 99 = .ok (.invokespecial 57, 3) := by decide +kernel
theorem dX10_init_102 : decode cX10_init 102 = .ok (.putfield 60, 3) := by decide +kernel
theorem dX10_init_105 : decode cX10_init 105 = .ok (.aload_n 0, 1) := by decide +kernel
theorem dX10_init_106 : decode cX10_init 106 = .ok (.bipush 12, 2) := by decide +kernel
theorem dX10_init_108 : decode cX10_init 108 = .ok (.newarray .int, 2) := by decide +kernel
theorem dX10_init_110 : decode cX10_init 110 = .ok (.putfield 64, 3) := by decide +kernel
theorem dX10_init_113 : decode cX10_init 113 = .ok (.aload_n 0, 1) := by decide +kernel
theorem dX10_init_114 : decode cX10_init 114 = .ok (.iconst 0, 1) := by decide +kernel
theorem dX10_init_115 : decode cX10_init 115 = .ok (.putfield 68, 3) := by decide +kernel
theorem dX10_init_118 : decode cX10_init 118 = .ok (.return_, 1) := by decide +kernel
theorem dX10_type_0 : decode cX10_type 0 = .ok (.aload_n 0, 1) := by decide +kernel
theorem dX10_type_1 : decode cX10_type 1 = .ok (.getfield 12, 3) := by decide +kernel
theorem dX10_type_4 : decode cX10_type 4 = .ok (.iload_n 1, 1) := by decide +kernel
theorem dX10_type_5 : decode cX10_type 5 = .ok (.iload_n 2, 1) := by decide +kernel
theorem dX10_type_6 : decode cX10_type 6 = .ok (.invokevirtual 72, 3) := by decide +kernel
theorem dX10_type_9 : decode cX10_type 9 = .ok (.ireturn, 1) := by decide +kernel
theorem dX10_command_0 : decode cX10_command 0 = .ok (.aload_n 0, 1) := by decide +kernel
theorem dX10_command_1 : decode cX10_command 1 = .ok (.getfield 19, 3) := by decide +kernel
theorem dX10_command_4 : decode cX10_command 4 = .ok (.getfield 76, 3) := by decide +kernel
theorem dX10_command_7 : decode cX10_command 7 = .ok (.istore_n 1, 1) := by decide +kernel
theorem dX10_command_8 : decode cX10_command 8 = .ok (.aload_n 0, 1) := by decide +kernel
theorem dX10_command_9 : decode cX10_command 9 = .ok (.getfield 12, 3) := by decide +kernel
theorem dX10_command_12 : decode cX10_command 12 = .ok (.invokevirtual 79, 3) := by decide +kernel
theorem dX10_command_15 : decode cX10_command 15 = .ok (.aload_n 0, 1) := by decide +kernel
theorem dX10_command_16 : decode cX10_command 16 = .ok (.getfield 35, 3) := by decide +kernel
theorem dX10_command_19 : decode cX10_command 19 = .ok (.invokevirtual 82, 3) := by decide +kernel
theorem dX10_command_22 : decode cX10_command 22 = .ok (.astore_n 2, 1) := by decide +kernel
theorem dX10_command_23 : decode cX10_command 23 = .ok (.aload_n 0, 1) := by decide +kernel
theorem dX10_command_24 : decode cX10_command 24 = .ok (.getfield 12, 3) := by decide +kernel
theorem dX10_command_27 : decode cX10_command 27 = .ok (.aload_n 0, 1) := by decide +kernel
theorem dX10_command_28 : decode cX10_command 28 = .ok (.getfield 35, 3) := by decide +kernel
theorem dX10_command_31 : decode cX10_command 31 = .ok (.getfield 86, 3) := by decide +kernel
theorem dX10_command_34 : decode cX10_command 34 = .ok (.invokevirtual 89, 3) := by decide +kernel
theorem dX10_command_37 : decode cX10_command 37 = .ok (.istore_n 3, 1) := by decide +kernel
theorem dX10_command_38 : decode cX10_command 38 = .ok (.aload_n 0, 1) := by decide +kernel
theorem dX10_command_39 : decode cX10_command 39 = .ok (.getfield 12, 3) := by decide +kernel
theorem dX10_command_42 : decode cX10_command 42 = .ok (.invokevirtual 93, 3) := by decide +kernel
theorem dX10_command_45 : decode cX10_command 45 = .ok (.aload_n 2, 1) := by decide +kernel
theorem dX10_command_46 : decode cX10_command 46 = .ok (.ifnonnull 15, 3) := by decide +kernel
theorem dX10_command_49 : decode cX10_command 49 = .ok (.aload_n 0, 1) := by decide +kernel
theorem dX10_command_50 : decode cX10_command 50 = .ok (.getfield 19, 3) := by decide +kernel
theorem dX10_command_53 : decode cX10_command 53 = .ok (.iload_n 1, 1) := by decide +kernel
theorem dX10_command_54 : decode cX10_command 54 = .ok (.invokevirtual 96, 3) := by decide +kernel
theorem dX10_command_57 : decode cX10_command 57 = .ok (.iconst (-1), 1) := by decide +kernel
theorem dX10_command_58 : decode cX10_command 58 = .ok (.iload_n 3, 1) := by decide +kernel
theorem dX10_command_59 : decode cX10_command 59 = .ok (.isub, 1) := by decide +kernel
theorem dX10_command_60 : decode cX10_command 60 = .ok (.ireturn, 1) := by decide +kernel
theorem dX10_command_61 : decode cX10_command 61 = .ok (.aload_n 0, 1) := by decide +kernel
theorem dX10_command_62 : decode cX10_command 62 = .ok (.aload_n 2, 1) := by decide +kernel
theorem dX10_command_63 : decode cX10_command 63 = .ok (.invokevirtual 100, 3) := by decide +kernel
theorem dX10_command_66 : decode cX10_command 66 = .ok (.istore 4, 2) := by decide +kernel
theorem dX10_command_68 : decode cX10_command 68 = .ok (.iload 4, 2) := by decide +kernel
theorem dX10_command_70 : decode cX10_command 70 = .ok (.ifCond .eq 14, 3) := by decide +kernel
theorem dX10_command_73 : decode cX10_command 73 = .ok (.aload_n 0, 1) := by decide +kernel
theorem dX10_command_74 : decode cX10_command 74 = .ok (.getfield 19, 3) := by decide +kernel
theorem dX10_command_77 : decode cX10_command 77 = .ok (.iload_n 1, 1) := by decide +kernel
theorem dX10_command_78 : decode cX10_command 78 = .ok (.invokevirtual 96, 3) := by decide +kernel
theorem dX10_command_81 : decode cX10_command 81 = .ok (.iload 4, 2) := by decide +kernel
theorem dX10_command_83 : decode cX10_command 83 = .ok (.ireturn, 1) := by decide +kernel
theorem dX10_command_84 : decode cX10_command 84 = .ok (.aload_n 0, 1) := by decide +kernel
theorem dX10_command_85 : decode cX10_command 85 = .ok (.iconst 0, 1) := by decide +kernel
theorem dX10_command_86 : decode cX10_command 86 = .ok (.putfield 68, 3) := by decide +kernel
theorem dX10_command_89 : decode cX10_command 89 = .ok (.aload_n 0, 1) := by decide +kernel
theorem dX10_command_90 : decode cX10_command 90 = .ok (.aload_n 2, 1) := by decide +kernel
theorem dX10_command_91 : decode cX10_command 91 = .ok (.invokevirtual 104, 3) := by decide +kernel
theorem dX10_command_94 : decode cX10_command 94 = .ok (.istore 5, 2) := by decide +kernel
theorem dX10_command_96 : decode cX10_command 96 = .ok (.aload_n 0, 1) := by decide +kernel
theorem dX10_command_97 : decode cX10_command 97 = .ok (.getfield 51, 3) := by decide +kernel
theorem dX10_command_100 : decode cX10_command 100 = .ok (.invokevirtual 107, 3) := by decide +kernel
theorem dX10_command_103 : decode cX10_command 103 = .ok (.iload 5, 2) := by decide +kernel
theorem dX10_command_105 : decode cX10_command 105 = .ok (.ireturn, 1) := by decide +kernel
theorem dX10_check_0 : decode cX10_check 0 = .ok (.aload_n 0, 1) := by decide +kernel
theorem dX10_check_1 : decode cX10_check 1 = .ok (.getfield 68, 3) := by decide +kernel
theorem dX10_check_4 : decode cX10_check 4 = .ok (.ifCond .ne 71, 3) := by decide +kernel
theorem dX10_check_7 : decode cX10_check 7 = .ok (.iconst 1, 1) := by decide +kernel
theorem dX10_check_8 : decode cX10_check 8 = .ok (.aload_n 0, 1) := by decide +kernel
theorem dX10_check_9 : decode cX10_check 9 = .ok (.getfield 26, 3) := by decide +kernel
theorem dX10_check_12 : decode cX10_check 12 = .ok (.getfield 110, 3) := by decide +kernel
theorem dX10_check_15 : decode cX10_check 15 = .ok (.ishl, 1) := by decide +kernel
theorem dX10_check_16 : decode cX10_check 16 = .ok (.iconst 1, 1) := by decide +kernel
theorem dX10_check_17 : decode cX10_check 17 = .ok (.isub, 1) := by decide +kernel
theorem dX10_check_18 : decode cX10_check 18 = .ok (.istore_n 1, 1) := by decide +kernel
theorem dX10_check_19 : decode cX10_check 19 = .ok (.aload_n 0, 1) := by decide +kernel
theorem dX10_check_20 : decode cX10_check 20 = .ok (.invokevirtual 113, 3) := by decide +kernel
theorem dX10_check_23 : decode cX10_check 23 = .ok (.aload_n 0, 1) := by decide +kernel
theorem dX10_check_24 : decode cX10_check 24 = .ok (.invokevirtual 116, 3) := by decide +kernel
theorem dX10_check_27 : decode cX10_check 27 = .ok (.aload_n 0, 1) := by decide +kernel
theorem dX10_check_28 : decode cX10_check 28 = .ok (.getfield 60, 3) := by decide +kernel
theorem dX10_check_31 : decode cX10_check 31 = .ok (.aload_n 0, 1) := by decide +kernel
theorem dX10_check_32 : decode cX10_check 32 = .ok (.getfield 64, 3) := by decide +kernel
theorem dX10_check_35 : decode cX10_check 35 = .ok (.iload_n 1, 1) := by decide +kernel
theorem dX10_check_36 : decode cX10_check 36 = .ok (.invokevirtual 119, 3) := by decide +kernel
theorem dX10_check_39 : decode cX10_check 39 = .ok (.ifCond .eq 22, 3) := by decide +kernel
theorem dX10_check_42 : decode cX10_check 42 = .ok (.aload_n 0, 1) := by decide +kernel
theorem dX10_check_43 : decode cX10_check 43 = .ok (.iconst 1, 1) := by decide +kernel
theorem dX10_check_44 : decode cX10_check 44 = .ok (.putfield 68, 3) := by decide +kernel
theorem dX10_check_47 : decode cX10_check 47 = .ok (.aload_n 0, 1) := by decide +kernel
theorem dX10_check_48 : decode cX10_check 48 = .ok (.aload_n 0, 1) := by decide +kernel
theorem dX10_check_49 : decode cX10_check 49 = .ok (.getfield 60, 3) := by decide +kernel
theorem dX10_check_52 : decode cX10_check 52 = .ok (.invokevirtual 123, 3) := by decide +kernel
theorem dX10_check_55 : decode cX10_check 55 = .ok (.putfield 127, 3) := by decide +kernel
theorem dX10_check_58 : decode cX10_check 58 = .ok (.goto 17, 3) := by decide +kernel
theorem dX10_check_61 : decode cX10_check 61 = .ok (.aload_n 0, 1) := by decide +kernel
theorem dX10_check_62 : decode cX10_check 62 = .ok (.iconst 2, 1) := by decide +kernel
theorem dX10_check_63 : decode cX10_check 63 = .ok (.putfield 68, 3) := by decide +kernel
theorem dX10_check_66 : decode cX10_check 66 = .ok (.aload_n 0, 1) := by decide +kernel
theorem dX10_check_67 : decode cX10_check 67 = .ok (.aload_n 0, 1) := by decide +kernel
theorem dX10_check_68 : decode cX10_check 68 = .ok (.iload_n 1, 1) := by decide +kernel
theorem dX10_check_69 : decode cX10_check 69 = .ok (.invokevirtual 130, 3) := by decide +kernel
theorem dX10_check_72 : decode cX10_check 72 = .ok (.putfield 133, 3) := by decide +kernel
theorem dX10_check_75 : decode cX10_check 75 = .ok (.aload_n 0, 1) := by decide +kernel
theorem dX10_check_76 : decode cX10_check 76 = .ok (.getfield 68, 3) := by decide +kernel
theorem dX10_check_79 : decode cX10_check 79 = .ok (.iconst 1, 1) := by decide +kernel
theorem dX10_check_80 : decode cX10_check 80 = .ok (.if_icmp .ne 7, 3) := by decide +kernel
theorem dX10_check_83 : decode cX10_check 83 = .ok (.iconst 1, 1) := by decide +kernel
theorem dX10_check_84 : decode cX10_check 84 = .ok (.goto 4, 3) := by decide +kernel
theorem dX10_check_87 : decode cX10_check 87 = .ok (.iconst 0, 1) := by decide +kernel
theorem dX10_check_88 : decode cX10_check 88 = .ok (.ireturn, 1) := by decide +kernel
theorem dX10_value_0 : decode cX10_value 0 = .ok (.aload_n 0, 1) := by decide +kernel
theorem dX10_value_1 : decode cX10_value 1 = .ok (.getfield 68, 3) := by decide +kernel
theorem dX10_value_4 : decode cX10_value 4 = .ok (.iconst 1, 1) := by decide +kernel
theorem dX10_value_5 : decode cX10_value 5 = .ok (.if_icmp .ne 14, 3) := by decide +kernel
theorem dX10_value_8 : decode cX10_value 8 = .ok (.aload_n 0, 1) := by decide +kernel
theorem dX10_value_9 : decode cX10_value 9 = .ok (.getfield 26, 3) := by decide +kernel
theorem dX10_value_12 : decode cX10_value 12 = .ok (.iload_n 1, 1) := by decide +kernel
theorem dX10_value_13 : decode cX10_value 13 = .ok (.invokevirtual 136, 3) := by decide +kernel
theorem dX10_value_16 : decode cX10_value 16 = .ok (.ifCond .ne 5, 3) := by decide +kernel
theorem dX10_value_19 : decode cX10_value 19 = .ok (.iconst (-1), 1) := by decide +kernel
theorem dX10_value_20 : decode cX10_value 20 = .ok (.ireturn, 1) := by decide +kernel
theorem dX10_value_21 : decode cX10_value 21 = .ok (.aload_n 0, 1) := by decide +kernel
theorem dX10_value_22 : decode cX10_value 22 = .ok (.getfield 26, 3) := by decide +kernel
theorem dX10_value_25 : decode cX10_value 25 = .ok (.getfield 140, 3) := by decide +kernel
theorem dX10_value_28 : decode cX10_value 28 = .ok (.iload_n 1, 1) := by decide +kernel
theorem dX10_value_29 : decode cX10_value 29 = .ok (.iaload, 1) := by decide +kernel
theorem dX10_value_30 : decode cX10_value 30 = .ok (.istore_n 2, 1) := by decide +kernel
theorem dX10_value_31 : decode cX10_value 31 = .ok (.aload_n 0, 1) := by decide +kernel
theorem dX10_value_32 : decode cX10_value 32 = .ok (.getfield 19, 3) := by decide +kernel
theorem dX10_value_35 : decode cX10_value 35 = .ok (.iload_n 2, 1) := by decide +kernel
theorem dX10_value_36 : decode cX10_value 36 = .ok (.invokevirtual 143, 3) := by decide +kernel
theorem dX10_value_39 : decode cX10_value 39 = .ok (.invokestatic 146, 3) := by decide +kernel
theorem dX10_value_42 : decode cX10_value 42 = .ok (.istore_n 3, 1) := by decide +kernel
theorem dX10_value_43 : decode cX10_value 43 = .ok (.aload_n 0, 1) := by decide +kernel
theorem dX10_value_44 : decode cX10_value 44 = .ok (.getfield 127, 3) := by decide +kernel
theorem dX10_value_47 : decode cX10_value 47 = .ok (.aload_n 0, 1) := by decide +kernel
theorem dX10_value_48 : decode cX10_value 48 = .ok (.getfield 19, 3) := by decide +kernel
theorem dX10_value_51 : decode cX10_value 51 = .ok (.iload_n 2, 1) := by decide +kernel
theorem dX10_value_52 : decode cX10_value 52 = .ok (.iconst 0, 1) := by decide +kernel
theorem dX10_value_53 : decode cX10_value 53 = .ok (.invokevirtual 149, 3) := by decide +kernel
theorem dX10_value_56 : decode cX10_value 56 = .ok (.ishr, 1) := by decide +kernel
theorem dX10_value_57 : decode cX10_value 57 = .ok (.iconst 1, 1) := by decide +kernel
theorem dX10_value_58 : decode cX10_value 58 = .ok (.iload_n 3, 1) := by decide +kernel
theorem dX10_value_59 : decode cX10_value 59 = .ok (.ishl, 1) := by decide +kernel
theorem dX10_value_60 : decode cX10_value 60 = .ok (.iconst 1, 1) := by decide +kernel
theorem dX10_value_61 : decode cX10_value 61 = .ok (.isub, 1) := by decide +kernel
theorem dX10_value_62 : decode cX10_value 62 = .ok (.iand, 1) := by decide +kernel
theorem dX10_value_63 : decode cX10_value 63 = .ok (.ireturn, 1) := by decide +kernel
theorem dX10_core_0 : decode cX10_core 0 = .ok (.aload_n 0, 1) := by decide +kernel
theorem dX10_core_1 : decode cX10_core 1 = .ok (.getfield 68, 3) := by decide +kernel
theorem dX10_core_4 : decode cX10_core 4 = .ok (.iconst 2, 1) := by decide +kernel
theorem dX10_core_5 : decode cX10_core 5 = .ok (.if_icmp .ne 30, 3) := by decide +kernel
theorem dX10_core_8 : decode cX10_core 8 = .ok (.aload_n 0, 1) := by decide +kernel
theorem dX10_core_9 : decode cX10_core 9 = .ok (.getfield 26, 3) := by decide +kernel
theorem dX10_core_12 : decode cX10_core 12 = .ok (.iload_n 1, 1) := by decide +kernel
theorem dX10_core_13 : decode cX10_core 13 = .ok (.invokevirtual 153, 3) := by decide +kernel
theorem dX10_core_16 : decode cX10_core 16 = .ok (.ifCond .eq 19, 3) := by decide +kernel
theorem dX10_core_19 : decode cX10_core 19 = .ok (.aload_n 0, 1) := by decide +kernel
theorem dX10_core_20 : decode cX10_core 20 = .ok (.getfield 133, 3) := by decide +kernel
theorem dX10_core_23 : decode cX10_core 23 = .ok (.iload_n 1, 1) := by decide +kernel
theorem dX10_core_24 : decode cX10_core 24 = .ok (.ishr, 1) := by decide +kernel
theorem dX10_core_25 : decode cX10_core 25 = .ok (.iconst 1, 1) := by decide +kernel
theorem dX10_core_26 : decode cX10_core 26 = .ok (.iand, 1) := by decide +kernel
theorem dX10_core_27 : decode cX10_core 27 = .ok (.iconst 1, 1) := by decide +kernel
theorem dX10_core_28 : decode cX10_core 28 = .ok (.if_icmp .ne 7, 3) := by decide +kernel
theorem dX10_core_31 : decode cX10_core 31 = .ok (.iconst 1, 1) := by decide +kernel
theorem dX10_core_32 : decode cX10_core 32 = .ok (.goto 4, 3) := by decide +kernel
theorem dX10_core_35 : decode cX10_core 35 = .ok (.iconst 0, 1) := by decide +kernel
theorem dX10_core_36 : decode cX10_core 36 = .ok (.ireturn, 1) := by decide +kernel
theorem dX10_holds_0 : decode cX10_holds 0 = .ok (.aload_n 0, 1) := by decide +kernel
theorem dX10_holds_1 : decode cX10_holds 1 = .ok (.getfield 26, 3) := by decide +kernel
theorem dX10_holds_4 : decode cX10_holds 4 = .ok (.iload_n 1, 1) := by decide +kernel
theorem dX10_holds_5 : decode cX10_holds 5 = .ok (.invokevirtual 153, 3) := by decide +kernel
theorem dX10_holds_8 : decode cX10_holds 8 = .ok (.ifCond .ne 5, 3) := by decide +kernel
theorem dX10_holds_11 : decode cX10_holds 11 = .ok (.iconst (-1), 1) := by decide +kernel
theorem dX10_holds_12 : decode cX10_holds 12 = .ok (.ireturn, 1) := by decide +kernel
theorem dX10_holds_13 : decode cX10_holds 13 = .ok (.aload_n 0, 1) := by decide +kernel
theorem dX10_holds_14 : decode cX10_holds 14 = .ok (.getfield 42, 3) := by decide +kernel
theorem dX10_holds_17 : decode cX10_holds 17 = .ok (.aload_n 0, 1) := by decide +kernel
theorem dX10_holds_18 : decode cX10_holds 18 = .ok (.getfield 51, 3) := by decide +kernel
theorem dX10_holds_21 : decode cX10_holds 21 = .ok (.aload_n 0, 1) := by decide +kernel
theorem dX10_holds_22 : decode cX10_holds 22 = .ok (.getfield 26, 3) := by decide +kernel
theorem dX10_holds_25 : decode cX10_holds 25 = .ok (.getfield 156, 3) := by decide +kernel
theorem dX10_holds_28 : decode cX10_holds 28 = .ok (.iload_n 1, 1) := by decide +kernel
theorem dX10_holds_29 : decode cX10_holds 29 = .ok (.iaload, 1) := by decide +kernel
theorem dX10_holds_30 : decode cX10_holds 30 = .ok (.iconst 0, 1) := by decide +kernel
theorem dX10_holds_31 : decode cX10_holds 31 = .ok (.invokevirtual 159, 3) := by decide +kernel
theorem dX10_holds_34 : decode cX10_holds 34 = .ok (.iload_n 2, 1) := by decide +kernel
theorem dX10_holds_35 : decode cX10_holds 35 = .ok (.invokevirtual 162, 3) := by decide +kernel
theorem dX10_holds_38 : decode cX10_holds 38 = .ok (.ireturn, 1) := by decide +kernel
theorem dX10_terms_0 : decode cX10_terms 0 = .ok (.aload_n 0, 1) := by decide +kernel
theorem dX10_terms_1 : decode cX10_terms 1 = .ok (.getfield 19, 3) := by decide +kernel
theorem dX10_terms_4 : decode cX10_terms 4 = .ok (.getfield 76, 3) := by decide +kernel
theorem dX10_terms_7 : decode cX10_terms 7 = .ok (.ireturn, 1) := by decide +kernel
theorem dX10_count_0 : decode cX10_count 0 = .ok (.iload_n 1, 1) := by decide +kernel
theorem dX10_count_1 : decode cX10_count 1 = .ok (.tableswitch 51 0 2 #[27, 35, 43], 27) := by decide +kernel
theorem dX10_count_28 : decode cX10_count 28 = .ok (.aload_n 0, 1) := by decide +kernel
theorem dX10_count_29 : decode cX10_count 29 = .ok (.getfield 26, 3) := by decide +kernel
theorem dX10_count_32 : decode cX10_count 32 = .ok (.getfield 165, 3) := by decide +kernel
theorem dX10_count_35 : decode cX10_count 35 = .ok (.ireturn, 1) := by decide +kernel
theorem dX10_count_36 : decode cX10_count 36 = .ok (.aload_n 0, 1) := by decide +kernel
theorem dX10_count_37 : decode cX10_count 37 = .ok (.getfield 26, 3) := by decide +kernel
theorem dX10_count_40 : decode cX10_count 40 = .ok (.getfield 110, 3) := by decide +kernel
theorem dX10_count_43 : decode cX10_count 43 = .ok (.ireturn, 1) := by decide +kernel
theorem dX10_count_44 : decode cX10_count 44 = .ok (.aload_n 0, 1) := by decide +kernel
theorem dX10_count_45 : decode cX10_count 45 = .ok (.getfield 26, 3) := by decide +kernel
theorem dX10_count_48 : decode cX10_count 48 = .ok (.getfield 168, 3) := by decide +kernel
theorem dX10_count_51 : decode cX10_count 51 = .ok (.ireturn, 1) := by decide +kernel
theorem dX10_count_52 : decode cX10_count 52 = .ok (.iconst (-1), 1) := by decide +kernel
theorem dX10_count_53 : decode cX10_count 53 = .ok (.ireturn, 1) := by decide +kernel
theorem dX10_refusal_0 : decode cX10_refusal 0 = .ok (.iconst 0, 1) := by decide +kernel
theorem dX10_refusal_1 : decode cX10_refusal 1 = .ok (.istore_n 3, 1) := by decide +kernel
theorem dX10_refusal_2 : decode cX10_refusal 2 = .ok (.getstatic 170, 3) := by decide +kernel
theorem dX10_refusal_5 : decode cX10_refusal 5 = .ok (.aload_n 1, 1) := by decide +kernel
theorem dX10_refusal_6 : decode cX10_refusal 6 = .ok (.invokevirtual 175, 3) := by decide +kernel
theorem dX10_refusal_9 : decode cX10_refusal 9 = .ok (.iaload, 1) := by decide +kernel
theorem dX10_refusal_10 : decode cX10_refusal 10 = .ok (.tableswitch 101 1 3 #[26, 60, 81], 26) := by decide +kernel
theorem dX10_refusal_36 : decode cX10_refusal 36 = .ok (.aload_n 0, 1) := by decide +kernel
theorem dX10_refusal_37 : decode cX10_refusal 37 = .ok (.getfield 26, 3) := by decide +kernel
theorem dX10_refusal_40 : decode cX10_refusal 40 = .ok (.getfield 180, 3) := by decide +kernel
theorem dX10_refusal_43 : decode cX10_refusal 43 = .ok (.aload_n 0, 1) := by decide +kernel
theorem dX10_refusal_44 : decode cX10_refusal 44 = .ok (.getfield 35, 3) := by decide +kernel
theorem dX10_refusal_47 : decode cX10_refusal 47 = .ok (.getfield 183, 3) := by decide +kernel
theorem dX10_refusal_50 : decode cX10_refusal 50 = .ok (.invokestatic 146, 3) := by decide +kernel
theorem dX10_refusal_53 : decode cX10_refusal 53 = .ok (.iadd, 1) := by decide +kernel
theorem dX10_refusal_54 : decode cX10_refusal 54 = .ok (.bipush 8, 2) := by decide +kernel
theorem dX10_refusal_56 : decode cX10_refusal 56 = .ok (.if_icmp .le 7, 3) := by decide +kernel
theorem dX10_refusal_59 : decode cX10_refusal 59 = .ok (.iconst 1, 1) := by decide +kernel
theorem dX10_refusal_60 : decode cX10_refusal 60 = .ok (.goto 4, 3) := by decide +kernel
theorem dX10_refusal_63 : decode cX10_refusal 63 = .ok (.iconst 0, 1) := by decide +kernel
theorem dX10_refusal_64 : decode cX10_refusal 64 = .ok (.istore_n 2, 1) := by decide +kernel
theorem dX10_refusal_65 : decode cX10_refusal 65 = .ok (.iconst 1, 1) := by decide +kernel
theorem dX10_refusal_66 : decode cX10_refusal 66 = .ok (.istore_n 3, 1) := by decide +kernel
theorem dX10_refusal_67 : decode cX10_refusal 67 = .ok (.goto 60, 3) := by decide +kernel
theorem dX10_refusal_70 : decode cX10_refusal 70 = .ok (.aload_n 0, 1) := by decide +kernel
theorem dX10_refusal_71 : decode cX10_refusal 71 = .ok (.getfield 26, 3) := by decide +kernel
theorem dX10_refusal_74 : decode cX10_refusal 74 = .ok (.getfield 110, 3) := by decide +kernel
theorem dX10_refusal_77 : decode cX10_refusal 77 = .ok (.bipush 12, 2) := by decide +kernel
theorem dX10_refusal_79 : decode cX10_refusal 79 = .ok (.if_icmp .lt 7, 3) := by decide +kernel
theorem dX10_refusal_82 : decode cX10_refusal 82 = .ok (.iconst 1, 1) := by decide +kernel
theorem dX10_refusal_83 : decode cX10_refusal 83 = .ok (.goto 4, 3) := by decide +kernel
theorem dX10_refusal_86 : decode cX10_refusal 86 = .ok (.iconst 0, 1) := by decide +kernel
theorem dX10_refusal_87 : decode cX10_refusal 87 = .ok (.istore_n 2, 1) := by decide +kernel
theorem dX10_refusal_88 : decode cX10_refusal 88 = .ok (.goto 39, 3) := by decide +kernel
theorem dX10_refusal_91 : decode cX10_refusal 91 = .ok (.aload_n 0, 1) := by decide +kernel
theorem dX10_refusal_92 : decode cX10_refusal 92 = .ok (.getfield 26, 3) := by decide +kernel
theorem dX10_refusal_95 : decode cX10_refusal 95 = .ok (.getfield 168, 3) := by decide +kernel
theorem dX10_refusal_98 : decode cX10_refusal 98 = .ok (.iconst 4, 1) := by decide +kernel
theorem dX10_refusal_99 : decode cX10_refusal 99 = .ok (.if_icmp .lt 7, 3) := by decide +kernel
theorem dX10_refusal_102 : decode cX10_refusal 102 = .ok (.iconst 1, 1) := by decide +kernel
theorem dX10_refusal_103 : decode cX10_refusal 103 = .ok (.goto 4, 3) := by decide +kernel
theorem dX10_refusal_106 : decode cX10_refusal 106 = .ok (.iconst 0, 1) := by decide +kernel
theorem dX10_refusal_107 : decode cX10_refusal 107 = .ok (.istore_n 2, 1) := by decide +kernel
theorem dX10_refusal_108 : decode cX10_refusal 108 = .ok (.goto 19, 3) := by decide +kernel
theorem dX10_refusal_111 : decode cX10_refusal 111 = .ok (.aload_n 0, 1) := by decide +kernel
theorem dX10_refusal_112 : decode cX10_refusal 112 = .ok (.getfield 26, 3) := by decide +kernel
theorem dX10_refusal_115 : decode cX10_refusal 115 = .ok (.getfield 168, 3) := by decide +kernel
theorem dX10_refusal_118 : decode cX10_refusal 118 = .ok (.ifCond .ne 7, 3) := by decide +kernel
theorem dX10_refusal_121 : decode cX10_refusal 121 = .ok (.iconst 1, 1) := by decide +kernel
theorem dX10_refusal_122 : decode cX10_refusal 122 = .ok (.goto 4, 3) := by decide +kernel
theorem dX10_refusal_125 : decode cX10_refusal 125 = .ok (.iconst 0, 1) := by decide +kernel
theorem dX10_refusal_126 : decode cX10_refusal 126 = .ok (.istore_n 2, 1) := by decide +kernel
theorem dX10_refusal_127 : decode cX10_refusal 127 = .ok (.iload_n 2, 1) := by decide +kernel
theorem dX10_refusal_128 : decode cX10_refusal 128 = .ok (.ifCond .eq 7, 3) := by decide +kernel
theorem dX10_refusal_131 : decode cX10_refusal 131 = .ok (.sipush (-1000), 3) := by decide +kernel
theorem dX10_refusal_134 : decode cX10_refusal 134 = .ok (.ireturn, 1) := by decide +kernel
theorem dX10_refusal_135 : decode cX10_refusal 135 = .ok (.aload_n 0, 1) := by decide +kernel
theorem dX10_refusal_136 : decode cX10_refusal 136 = .ok (.getfield 19, 3) := by decide +kernel
theorem dX10_refusal_139 : decode cX10_refusal 139 = .ok (.getfield 76, 3) := by decide +kernel
theorem dX10_refusal_142 : decode cX10_refusal 142 = .ok (.iload_n 3, 1) := by decide +kernel
theorem dX10_refusal_143 : decode cX10_refusal 143 = .ok (.iadd, 1) := by decide +kernel
theorem dX10_refusal_144 : decode cX10_refusal 144 = .ok (.bipush 60, 2) := by decide +kernel
theorem dX10_refusal_146 : decode cX10_refusal 146 = .ok (.if_icmp .gt 14, 3) := by decide +kernel
theorem dX10_refusal_149 : decode cX10_refusal 149 = .ok (.aload_n 0, 1) := by decide +kernel
theorem dX10_refusal_150 : decode cX10_refusal 150 = .ok (.getfield 19, 3) := by decide +kernel
theorem dX10_refusal_153 : decode cX10_refusal 153 = .ok (.invokevirtual 186, 3) := by decide +kernel
theorem dX10_refusal_156 : decode cX10_refusal 156 = .ok (.iconst 2, 1) := by decide +kernel
theorem dX10_refusal_157 : decode cX10_refusal 157 = .ok (.if_icmp .le 9, 3) := by decide +kernel
theorem dX10_refusal_160 : decode cX10_refusal 160 = .ok (.sipush (-1001), 3) := by decide +kernel
theorem dX10_refusal_163 : decode cX10_refusal 163 = .ok (.goto 4, 3) := by decide +kernel
theorem dX10_refusal_166 : decode cX10_refusal 166 = .ok (.iconst 0, 1) := by decide +kernel
theorem dX10_refusal_167 : decode cX10_refusal 167 = .ok (.ireturn, 1) := by decide +kernel
theorem dX10_perform_0 : decode cX10_perform 0 = .ok (.getstatic 170, 3) := by decide +kernel
theorem dX10_perform_3 : decode cX10_perform 3 = .ok (.aload_n 1, 1) := by decide +kernel
theorem dX10_perform_4 : decode cX10_perform 4 = .ok (.invokevirtual 175, 3) := by decide +kernel
theorem dX10_perform_7 : decode cX10_perform 7 = .ok (.iaload, 1) := by decide +kernel
theorem dX10_perform_8 : decode cX10_perform 8 = .ok (.tableswitch 97 1 3 #[28, 74, 89], 28) := by decide +kernel
theorem dX10_perform_36 : decode cX10_perform 36 = .ok (.aload_n 0, 1) := by decide +kernel
theorem dX10_perform_37 : decode cX10_perform 37 = .ok (.getfield 26, 3) := by decide +kernel
theorem dX10_perform_40 : decode cX10_perform 40 = .ok (.aload_n 0, 1) := by decide +kernel
theorem dX10_perform_41 : decode cX10_perform 41 = .ok (.getfield 35, 3) := by decide +kernel
theorem dX10_perform_44 : decode cX10_perform 44 = .ok (.getfield 189, 3) := by decide +kernel
theorem dX10_perform_47 : decode cX10_perform 47 = .ok (.aload_n 0, 1) := by decide +kernel
theorem dX10_perform_48 : decode cX10_perform 48 = .ok (.getfield 19, 3) := by decide +kernel
theorem dX10_perform_51 : decode cX10_perform 51 = .ok (.aload_n 0, 1) := by decide +kernel
theorem dX10_perform_52 : decode cX10_perform 52 = .ok (.getfield 26, 3) := by decide +kernel
theorem dX10_perform_55 : decode cX10_perform 55 = .ok (.getfield 180, 3) := by decide +kernel
theorem dX10_perform_58 : decode cX10_perform 58 = .ok (.aload_n 0, 1) := by decide +kernel
theorem dX10_perform_59 : decode cX10_perform 59 = .ok (.getfield 35, 3) := by decide +kernel
theorem dX10_perform_62 : decode cX10_perform 62 = .ok (.getfield 183, 3) := by decide +kernel
theorem dX10_perform_65 : decode cX10_perform 65 = .ok (.invokevirtual 192, 3) := by decide +kernel
theorem dX10_perform_68 : decode cX10_perform 68 = .ok (.aload_n 0, 1) := by decide +kernel
theorem dX10_perform_69 : decode cX10_perform 69 = .ok (.getfield 35, 3) := by decide +kernel
theorem dX10_perform_72 : decode cX10_perform 72 = .ok (.getfield 183, 3) := by decide +kernel
theorem dX10_perform_75 : decode cX10_perform 75 = .ok (.invokestatic 146, 3) := by decide +kernel
theorem dX10_perform_78 : decode cX10_perform 78 = .ok (.invokevirtual 195, 3) := by decide +kernel
theorem dX10_perform_81 : decode cX10_perform 81 = .ok (.ireturn, 1) := by decide +kernel
theorem dX10_perform_82 : decode cX10_perform 82 = .ok (.aload_n 0, 1) := by decide +kernel
theorem dX10_perform_83 : decode cX10_perform 83 = .ok (.getfield 26, 3) := by decide +kernel
theorem dX10_perform_86 : decode cX10_perform 86 = .ok (.aload_n 0, 1) := by decide +kernel
theorem dX10_perform_87 : decode cX10_perform 87 = .ok (.getfield 35, 3) := by decide +kernel
theorem dX10_perform_90 : decode cX10_perform 90 = .ok (.getfield 199, 3) := by decide +kernel
theorem dX10_perform_93 : decode cX10_perform 93 = .ok (.invokevirtual 202, 3) := by decide +kernel
theorem dX10_perform_96 : decode cX10_perform 96 = .ok (.ireturn, 1) := by decide +kernel
theorem dX10_perform_97 : decode cX10_perform 97 = .ok (.aload_n 0, 1) := by decide +kernel
theorem dX10_perform_98 : decode cX10_perform 98 = .ok (.getfield 26, 3) := by decide +kernel
theorem dX10_perform_101 : decode cX10_perform 101 = .ok (.invokevirtual 205, 3) := by decide +kernel
theorem dX10_perform_104 : decode cX10_perform 104 = .ok (.ireturn, 1) := by decide +kernel
theorem dX10_perform_105 : decode cX10_perform 105 = .ok (.aload_n 0, 1) := by decide +kernel
theorem dX10_perform_106 : decode cX10_perform 106 = .ok (.getfield 26, 3) := by decide +kernel
theorem dX10_perform_109 : decode cX10_perform 109 = .ok (.invokevirtual 208, 3) := by decide +kernel
theorem dX10_perform_112 : decode cX10_perform 112 = .ok (.ireturn, 1) := by decide +kernel
theorem dX10_gatherRoots_0 : decode cX10_gatherRoots 0 = .ok (.iconst 0, 1) := by decide +kernel
theorem dX10_gatherRoots_1 : decode cX10_gatherRoots 1 = .ok (.istore_n 1, 1) := by decide +kernel
theorem dX10_gatherRoots_2 : decode cX10_gatherRoots 2 = .ok (.iload_n 1, 1) := by decide +kernel
theorem dX10_gatherRoots_3 : decode cX10_gatherRoots 3 = .ok (.aload_n 0, 1) := by decide +kernel
theorem dX10_gatherRoots_4 : decode cX10_gatherRoots 4 = .ok (.getfield 26, 3) := by decide +kernel
theorem dX10_gatherRoots_7 : decode cX10_gatherRoots 7 = .ok (.getfield 110, 3) := by decide +kernel
theorem dX10_gatherRoots_10 : decode cX10_gatherRoots 10 = .ok (.if_icmp .ge 32, 3) := by decide +kernel
theorem dX10_gatherRoots_13 : decode cX10_gatherRoots 13 = .ok (.aload_n 0, 1) := by decide +kernel
theorem dX10_gatherRoots_14 : decode cX10_gatherRoots 14 = .ok (.getfield 64, 3) := by decide +kernel
theorem dX10_gatherRoots_17 : decode cX10_gatherRoots 17 = .ok (.iload_n 1, 1) := by decide +kernel
theorem dX10_gatherRoots_18 : decode cX10_gatherRoots 18 = .ok (.aload_n 0, 1) := by decide +kernel
theorem dX10_gatherRoots_19 : decode cX10_gatherRoots 19 = .ok (.getfield 51, 3) := by decide +kernel
theorem dX10_gatherRoots_22 : decode cX10_gatherRoots 22 = .ok (.aload_n 0, 1) := by decide +kernel
theorem dX10_gatherRoots_23 : decode cX10_gatherRoots 23 = .ok (.getfield 26, 3) := by decide +kernel
theorem dX10_gatherRoots_26 : decode cX10_gatherRoots 26 = .ok (.getfield 156, 3) := by decide +kernel
theorem dX10_gatherRoots_29 : decode cX10_gatherRoots 29 = .ok (.iload_n 1, 1) := by decide +kernel
theorem dX10_gatherRoots_30 : decode cX10_gatherRoots 30 = .ok (.iaload, 1) := by decide +kernel
theorem dX10_gatherRoots_31 : decode cX10_gatherRoots 31 = .ok (.iconst 0, 1) := by decide +kernel
theorem dX10_gatherRoots_32 : decode cX10_gatherRoots 32 = .ok (.invokevirtual 159, 3) := by decide +kernel
theorem dX10_gatherRoots_35 : decode cX10_gatherRoots 35 = .ok (.iastore, 1) := by decide +kernel
theorem dX10_gatherRoots_36 : decode cX10_gatherRoots 36 = .ok (.iinc 1 1, 3) := by decide +kernel
theorem dX10_gatherRoots_39 : decode cX10_gatherRoots 39 = .ok (.goto (-37), 3) := by decide +kernel
theorem dX10_gatherRoots_42 : decode cX10_gatherRoots 42 = .ok (.return_, 1) := by decide +kernel
theorem dX10_orderInputs_0 : decode cX10_orderInputs 0 = .ok (.aload_n 0, 1) := by decide +kernel
theorem dX10_orderInputs_1 : decode cX10_orderInputs 1 = .ok (.getfield 60, 3) := by decide +kernel
theorem dX10_orderInputs_4 : decode cX10_orderInputs 4 = .ok (.invokevirtual 211, 3) := by decide +kernel
theorem dX10_orderInputs_7 : decode cX10_orderInputs 7 = .ok (.iconst 0, 1) := by decide +kernel
theorem dX10_orderInputs_8 : decode cX10_orderInputs 8 = .ok (.istore_n 1, 1) := by decide +kernel
theorem dX10_orderInputs_9 : decode cX10_orderInputs 9 = .ok (.iload_n 1, 1) := by decide +kernel
theorem dX10_orderInputs_10 : decode cX10_orderInputs 10 = .ok (.aload_n 0, 1) := by decide +kernel
theorem dX10_orderInputs_11 : decode cX10_orderInputs 11 = .ok (.getfield 26, 3) := by decide +kernel
theorem dX10_orderInputs_14 : decode cX10_orderInputs 14 = .ok (.getfield 165, 3) := by decide +kernel
theorem dX10_orderInputs_17 : decode cX10_orderInputs 17 = .ok (.if_icmp .ge 68, 3) := by decide +kernel
theorem dX10_orderInputs_20 : decode cX10_orderInputs 20 = .ok (.aload_n 0, 1) := by decide +kernel
theorem dX10_orderInputs_21 : decode cX10_orderInputs 21 = .ok (.getfield 26, 3) := by decide +kernel
theorem dX10_orderInputs_24 : decode cX10_orderInputs 24 = .ok (.getfield 140, 3) := by decide +kernel
theorem dX10_orderInputs_27 : decode cX10_orderInputs 27 = .ok (.iload_n 1, 1) := by decide +kernel
theorem dX10_orderInputs_28 : decode cX10_orderInputs 28 = .ok (.iaload, 1) := by decide +kernel
theorem dX10_orderInputs_29 : decode cX10_orderInputs 29 = .ok (.istore_n 2, 1) := by decide +kernel
theorem dX10_orderInputs_30 : decode cX10_orderInputs 30 = .ok (.aload_n 0, 1) := by decide +kernel
theorem dX10_orderInputs_31 : decode cX10_orderInputs 31 = .ok (.getfield 19, 3) := by decide +kernel
theorem dX10_orderInputs_34 : decode cX10_orderInputs 34 = .ok (.iload_n 2, 1) := by decide +kernel
theorem dX10_orderInputs_35 : decode cX10_orderInputs 35 = .ok (.iconst 0, 1) := by decide +kernel
theorem dX10_orderInputs_36 : decode cX10_orderInputs 36 = .ok (.invokevirtual 149, 3) := by decide +kernel
theorem dX10_orderInputs_39 : decode cX10_orderInputs 39 = .ok (.istore_n 3, 1) := by decide +kernel
theorem dX10_orderInputs_40 : decode cX10_orderInputs 40 = .ok (.aload_n 0, 1) := by decide +kernel
theorem dX10_orderInputs_41 : decode cX10_orderInputs 41 = .ok (.getfield 19, 3) := by decide +kernel
theorem dX10_orderInputs_44 : decode cX10_orderInputs 44 = .ok (.iload_n 2, 1) := by decide +kernel
theorem dX10_orderInputs_45 : decode cX10_orderInputs 45 = .ok (.invokevirtual 143, 3) := by decide +kernel
theorem dX10_orderInputs_48 : decode cX10_orderInputs 48 = .ok (.invokestatic 146, 3) := by decide +kernel
theorem dX10_orderInputs_51 : decode cX10_orderInputs 51 = .ok (.iconst 1, 1) := by decide +kernel
theorem dX10_orderInputs_52 : decode cX10_orderInputs 52 = .ok (.isub, 1) := by decide +kernel
theorem dX10_orderInputs_53 : decode cX10_orderInputs 53 = .ok (.istore 4, 2) := by decide +kernel
theorem dX10_orderInputs_55 : decode cX10_orderInputs 55 = .ok (.iload 4, 2) := by decide +kernel
theorem dX10_orderInputs_57 : decode cX10_orderInputs 57 = .ok (.ifCond .lt 22, 3) := by decide +kernel
theorem dX10_orderInputs_60 : decode cX10_orderInputs 60 = .ok (.aload_n 0, 1) := by decide +kernel
theorem dX10_orderInputs_61 : decode cX10_orderInputs 61 = .ok (.getfield 60, 3) := by decide +kernel
theorem dX10_orderInputs_64 : decode cX10_orderInputs 64 = .ok (.iconst 1, 1) := by decide +kernel
theorem dX10_orderInputs_65 : decode cX10_orderInputs 65 = .ok (.iload_n 3, 1) := by decide +kernel
theorem dX10_orderInputs_66 : decode cX10_orderInputs 66 = .ok (.iadd, 1) := by decide +kernel
theorem dX10_orderInputs_67 : decode cX10_orderInputs 67 = .ok (.iload 4, 2) := by decide +kernel
theorem dX10_orderInputs_69 : decode cX10_orderInputs 69 = .ok (.iadd, 1) := by decide +kernel
theorem dX10_orderInputs_70 : decode cX10_orderInputs 70 = .ok (.invokevirtual 214, 3) := by decide +kernel
theorem dX10_orderInputs_73 : decode cX10_orderInputs 73 = .ok (.iinc 4 (-1), 3) := by decide +kernel
theorem dX10_orderInputs_76 : decode cX10_orderInputs 76 = .ok (.goto (-21), 3) := by decide +kernel
theorem dX10_orderInputs_79 : decode cX10_orderInputs 79 = .ok (.iinc 1 1, 3) := by decide +kernel
theorem dX10_orderInputs_82 : decode cX10_orderInputs 82 = .ok (.goto (-73), 3) := by decide +kernel
theorem dX10_orderInputs_85 : decode cX10_orderInputs 85 = .ok (.return_, 1) := by decide +kernel
theorem dX10_coreOf_0 : decode cX10_coreOf 0 = .ok (.iload_n 1, 1) := by decide +kernel
theorem dX10_coreOf_1 : decode cX10_coreOf 1 = .ok (.istore_n 2, 1) := by decide +kernel
theorem dX10_coreOf_2 : decode cX10_coreOf 2 = .ok (.iconst 0, 1) := by decide +kernel
theorem dX10_coreOf_3 : decode cX10_coreOf 3 = .ok (.istore_n 3, 1) := by decide +kernel
theorem dX10_coreOf_4 : decode cX10_coreOf 4 = .ok (.iload_n 3, 1) := by decide +kernel
theorem dX10_coreOf_5 : decode cX10_coreOf 5 = .ok (.aload_n 0, 1) := by decide +kernel
theorem dX10_coreOf_6 : decode cX10_coreOf 6 = .ok (.getfield 26, 3) := by decide +kernel
theorem dX10_coreOf_9 : decode cX10_coreOf 9 = .ok (.getfield 110, 3) := by decide +kernel
theorem dX10_coreOf_12 : decode cX10_coreOf 12 = .ok (.if_icmp .ge 37, 3) := by decide +kernel
theorem dX10_coreOf_15 : decode cX10_coreOf 15 = .ok (.iload_n 2, 1) := by decide +kernel
theorem dX10_coreOf_16 : decode cX10_coreOf 16 = .ok (.iconst 1, 1) := by decide +kernel
theorem dX10_coreOf_17 : decode cX10_coreOf 17 = .ok (.iload_n 3, 1) := by decide +kernel
theorem dX10_coreOf_18 : decode cX10_coreOf 18 = .ok (.ishl, 1) := by decide +kernel
theorem dX10_coreOf_19 : decode cX10_coreOf 19 = .ok (.iconst (-1), 1) := by decide +kernel
theorem dX10_coreOf_20 : decode cX10_coreOf 20 = .ok (.ixor, 1) := by decide +kernel
theorem dX10_coreOf_21 : decode cX10_coreOf 21 = .ok (.iand, 1) := by decide +kernel
theorem dX10_coreOf_22 : decode cX10_coreOf 22 = .ok (.istore 4, 2) := by decide +kernel
theorem dX10_coreOf_24 : decode cX10_coreOf 24 = .ok (.aload_n 0, 1) := by decide +kernel
theorem dX10_coreOf_25 : decode cX10_coreOf 25 = .ok (.getfield 60, 3) := by decide +kernel
theorem dX10_coreOf_28 : decode cX10_coreOf 28 = .ok (.aload_n 0, 1) := by decide +kernel
theorem dX10_coreOf_29 : decode cX10_coreOf 29 = .ok (.getfield 64, 3) := by decide +kernel
theorem dX10_coreOf_32 : decode cX10_coreOf 32 = .ok (.iload 4, 2) := by decide +kernel
theorem dX10_coreOf_34 : decode cX10_coreOf 34 = .ok (.invokevirtual 119, 3) := by decide +kernel
theorem dX10_coreOf_37 : decode cX10_coreOf 37 = .ok (.ifCond .ne 6, 3) := by decide +kernel
theorem dX10_coreOf_40 : decode cX10_coreOf 40 = .ok (.iload 4, 2) := by decide +kernel
theorem dX10_coreOf_42 : decode cX10_coreOf 42 = .ok (.istore_n 2, 1) := by decide +kernel
theorem dX10_coreOf_43 : decode cX10_coreOf 43 = .ok (.iinc 3 1, 3) := by decide +kernel
theorem dX10_coreOf_46 : decode cX10_coreOf 46 = .ok (.goto (-42), 3) := by decide +kernel
theorem dX10_coreOf_49 : decode cX10_coreOf 49 = .ok (.iload_n 2, 1) := by decide +kernel
theorem dX10_coreOf_50 : decode cX10_coreOf 50 = .ok (.ireturn, 1) := by decide +kernel
theorem dX10_bitsOf_0 : decode cX10_bitsOf 0 = .ok (.iload_n 0, 1) := by decide +kernel
theorem dX10_bitsOf_1 : decode cX10_bitsOf 1 = .ok (.ifCond .ne 5, 3) := by decide +kernel
theorem dX10_bitsOf_4 : decode cX10_bitsOf 4 = .ok (.iconst 1, 1) := by decide +kernel
theorem dX10_bitsOf_5 : decode cX10_bitsOf 5 = .ok (.ireturn, 1) := by decide +kernel
theorem dX10_bitsOf_6 : decode cX10_bitsOf 6 = .ok (.iload_n 0, 1) := by decide +kernel
theorem dX10_bitsOf_7 : decode cX10_bitsOf 7 = .ok (.invokestatic 217, 3) := by decide +kernel
theorem dX10_bitsOf_10 : decode cX10_bitsOf 10 = .ok (.ifCond .eq 7, 3) := by decide +kernel
theorem dX10_bitsOf_13 : decode cX10_bitsOf 13 = .ok (.iload_n 0, 1) := by decide +kernel
theorem dX10_bitsOf_14 : decode cX10_bitsOf 14 = .ok (.goto 8, 3) := by decide +kernel
theorem dX10_bitsOf_17 : decode cX10_bitsOf 17 = .ok (.iconst 2, 1) := by decide +kernel
theorem dX10_bitsOf_18 : decode cX10_bitsOf 18 = .ok (.iload_n 0, 1) := by decide +kernel
theorem dX10_bitsOf_19 : decode cX10_bitsOf 19 = .ok (.iconst 4, 1) := by decide +kernel
theorem dX10_bitsOf_20 : decode cX10_bitsOf 20 = .ok (.isub, 1) := by decide +kernel
theorem dX10_bitsOf_21 : decode cX10_bitsOf 21 = .ok (.imul, 1) := by decide +kernel
theorem dX10_bitsOf_22 : decode cX10_bitsOf 22 = .ok (.ireturn, 1) := by decide +kernel
theorem dX10_isWord_0 : decode cX10_isWord 0 = .ok (.iload_n 0, 1) := by decide +kernel
theorem dX10_isWord_1 : decode cX10_isWord 1 = .ok (.ifCond .le 12, 3) := by decide +kernel
theorem dX10_isWord_4 : decode cX10_isWord 4 = .ok (.iload_n 0, 1) := by decide +kernel
theorem dX10_isWord_5 : decode cX10_isWord 5 = .ok (.iconst 4, 1) := by decide +kernel
theorem dX10_isWord_6 : decode cX10_isWord 6 = .ok (.if_icmp .gt 7, 3) := by decide +kernel
theorem dX10_isWord_9 : decode cX10_isWord 9 = .ok (.iconst 1, 1) := by decide +kernel
theorem dX10_isWord_10 : decode cX10_isWord 10 = .ok (.goto 4, 3) := by decide +kernel
theorem dX10_isWord_13 : decode cX10_isWord 13 = .ok (.iconst 0, 1) := by decide +kernel
theorem dX10_isWord_14 : decode cX10_isWord 14 = .ok (.ireturn, 1) := by decide +kernel
theorem dX10_isArray_0 : decode cX10_isArray 0 = .ok (.iload_n 0, 1) := by decide +kernel
theorem dX10_isArray_1 : decode cX10_isArray 1 = .ok (.iconst 4, 1) := by decide +kernel
theorem dX10_isArray_2 : decode cX10_isArray 2 = .ok (.if_icmp .le 7, 3) := by decide +kernel
theorem dX10_isArray_5 : decode cX10_isArray 5 = .ok (.iconst 1, 1) := by decide +kernel
theorem dX10_isArray_6 : decode cX10_isArray 6 = .ok (.goto 4, 3) := by decide +kernel
theorem dX10_isArray_9 : decode cX10_isArray 9 = .ok (.iconst 0, 1) := by decide +kernel
theorem dX10_isArray_10 : decode cX10_isArray 10 = .ok (.ireturn, 1) := by decide +kernel
theorem dX11_init_0 : decode cX11_init 0 = .ok (.aload_n 0, 1) := by decide +kernel
theorem dX11_init_1 : decode cX11_init 1 = .ok (.invokespecial 1, 3) := by decide +kernel
theorem dX11_init_4 : decode cX11_init 4 = .ok (.aload_n 0, 1) := by decide +kernel
theorem dX11_init_5 : decode cX11_init 5 = .ok (.bipush 120, 2) := by decide +kernel
theorem dX11_init_7 : decode cX11_init 7 = .ok (.newarray .int, 2) := by decide +kernel
theorem dX11_init_9 : decode cX11_init 9 = .ok (.putfield 7, 3) := by decide +kernel
theorem dX11_init_12 : decode cX11_init 12 = .ok (.aload_n 0, 1) := by decide +kernel
theorem dX11_init_13 : decode cX11_init 13 = .ok (.sipush 130, 3) := by decide +kernel
theorem dX11_init_16 : decode cX11_init 16 = .ok (.newarray .int, 2) := by decide +kernel
theorem dX11_init_18 : decode cX11_init 18 = .ok (.putfield 13, 3) := by decide +kernel
theorem dX11_init_21 : decode cX11_init 21 = .ok (.aload_n 0, 1) := by decide +kernel
theorem dX11_init_22 : decode cX11_init 22 = .ok (.sipush 130, 3) := by decide +kernel
theorem dX11_init_25 : decode cX11_init 25 = .ok (.newarray .int, 2) := by decide +kernel
theorem dX11_init_27 : decode cX11_init 27 = .ok (.putfield 16, 3) := by decide +kernel
theorem dX11_init_30 : decode cX11_init 30 = .ok (.aload_n 0, 1) := by decide +kernel
theorem dX11_init_31 : decode cX11_init 31 = .ok (.sipush 130, 3) := by decide +kernel
theorem dX11_init_34 : decode cX11_init 34 = .ok (.newarray .int, 2) := by decide +kernel
theorem dX11_init_36 : decode cX11_init 36 = .ok (.putfield 19, 3) := by decide +kernel
theorem dX11_init_39 : decode cX11_init 39 = .ok (.aload_n 0, 1) := by decide +kernel
theorem dX11_init_40 : decode cX11_init 40 = .ok (.sipush 130, 3) := by decide +kernel
theorem dX11_init_43 : decode cX11_init 43 = .ok (.newarray .int, 2) := by decide +kernel
theorem dX11_init_45 : decode cX11_init 45 = .ok (.putfield 22, 3) := by decide +kernel
theorem dX11_init_48 : decode cX11_init 48 = .ok (.aload_n 0, 1) := by decide +kernel
theorem dX11_init_49 : decode cX11_init 49 = .ok (.sipush 130, 3) := by decide +kernel
theorem dX11_init_52 : decode cX11_init 52 = .ok (.newarray .int, 2) := by decide +kernel
theorem dX11_init_54 : decode cX11_init 54 = .ok (.putfield 25, 3) := by decide +kernel
theorem dX11_init_57 : decode cX11_init 57 = .ok (.aload_n 0, 1) := by decide +kernel
theorem dX11_init_58 : decode cX11_init 58 = .ok (.sipush 130, 3) := by decide +kernel
theorem dX11_init_61 : decode cX11_init 61 = .ok (.newarray .int, 2) := by decide +kernel
theorem dX11_init_63 : decode cX11_init 63 = .ok (.putfield 28, 3) := by decide +kernel
theorem dX11_init_66 : decode cX11_init 66 = .ok (.aload_n 0, 1) := by decide +kernel
theorem dX11_init_67 : decode cX11_init 67 = .ok (.sipush 130, 3) := by decide +kernel
theorem dX11_init_70 : decode cX11_init 70 = .ok (.newarray .int, 2) := by decide +kernel
theorem dX11_init_72 : decode cX11_init 72 = .ok (.putfield 31, 3) := by decide +kernel
theorem dX11_init_75 : decode cX11_init 75 = .ok (.aload_n 0, 1) := by decide +kernel
theorem dX11_init_76 : decode cX11_init 76 = .ok (.bipush 12, 2) := by decide +kernel
theorem dX11_init_78 : decode cX11_init 78 = .ok (.newarray .int, 2) := by decide +kernel
theorem dX11_init_80 : decode cX11_init 80 = .ok (.putfield 34, 3) := by decide +kernel
theorem dX11_init_83 : decode cX11_init 83 = .ok (.aload_n 0, 1) := by decide +kernel
theorem dX11_init_84 : decode cX11_init 84 = .ok (.bipush 12, 2) := by decide +kernel
theorem dX11_init_86 : decode cX11_init 86 = .ok (.newarray .int, 2) := by decide +kernel
theorem dX11_init_88 : decode cX11_init 88 = .ok (.putfield 37, 3) := by decide +kernel
theorem dX11_init_91 : decode cX11_init 91 = .ok (.aload_n 0, 1) := by decide +kernel
theorem dX11_init_92 : decode cX11_init 92 = .ok (.bipush 12, 2) := by decide +kernel
theorem dX11_init_94 : decode cX11_init 94 = .ok (.newarray .int, 2) := by decide +kernel
theorem dX11_init_96 : decode cX11_init 96 = .ok (.putfield 40, 3) := by decide +kernel
theorem dX11_init_99 : decode cX11_init 99 = .ok (.aload_n 0, 1) := by decide +kernel
theorem dX11_init_100 : decode cX11_init 100 = .ok (.bipush 36, 2) := by decide +kernel
theorem dX11_init_102 : decode cX11_init 102 = .ok (.newarray .int, 2) := by decide +kernel
theorem dX11_init_104 : decode cX11_init 104 = .ok (.putfield 43, 3) := by decide +kernel
theorem dX11_init_107 : decode cX11_init 107 = .ok (.aload_n 0, 1) := by decide +kernel
theorem dX11_init_108 : decode cX11_init 108 = .ok (.bipush 12, 2) := by decide +kernel
theorem dX11_init_110 : decode cX11_init 110 = .ok (.newarray .int, 2) := by decide +kernel
theorem dX11_init_112 : decode cX11_init 112 = .ok (.putfield 46, 3) := by decide +kernel
theorem dX11_init_115 : decode cX11_init 115 = .ok (.aload_n 0, 1) := by decide +kernel
theorem dX11_init_116 : decode cX11_init 116 = .ok (.bipush 12, 2) := by decide +kernel
theorem dX11_init_118 : decode cX11_init 118 = .ok (.newarray .int, 2) := by decide +kernel
theorem dX11_init_120 : decode cX11_init 120 = .ok (.putfield 49, 3) := by decide +kernel
theorem dX11_init_123 : decode cX11_init 123 = .ok (.aload_n 0, 1) := by decide +kernel
theorem dX11_init_124 : decode cX11_init 124 = .ok (.bipush 12, 2) := by decide +kernel
theorem dX11_init_126 : decode cX11_init 126 = .ok (.newarray .long, 2) := by decide +kernel
theorem dX11_init_128 : decode cX11_init 128 = .ok (.putfield 52, 3) := by decide +kernel
theorem dX11_init_131 : decode cX11_init 131 = .ok (.aload_n 0, 1) := by decide +kernel
theorem dX11_init_132 : decode cX11_init 132 = .ok (.bipush 12, 2) := by decide +kernel
theorem dX11_init_134 : decode cX11_init 134 = .ok (.newarray .long, 2) := by decide +kernel
theorem dX11_init_136 : decode cX11_init 136 = .ok (.putfield 56, 3) := by decide +kernel
theorem dX11_init_139 : decode cX11_init 139 = .ok (.aload_n 0, 1) := by decide +kernel
theorem dX11_init_140 : decode cX11_init 140 = .ok (.bipush 12, 2) := by decide +kernel
theorem dX11_init_142 : decode cX11_init 142 = .ok (.newarray .int, 2) := by decide +kernel
theorem dX11_init_144 : decode cX11_init 144 = .ok (.putfield 59, 3) := by decide +kernel
theorem dX11_init_147 : decode cX11_init 147 = .ok (.aload_n 0, 1) := by decide +kernel
theorem dX11_init_148 : decode cX11_init 148 = .ok (.bipush 12, 2) := by decide +kernel
theorem dX11_init_150 : decode cX11_init 150 = .ok (.newarray .int, 2) := by decide +kernel
theorem dX11_init_152 : decode cX11_init 152 = .ok (.putfield 62, 3) := by decide +kernel
theorem dX11_init_155 : decode cX11_init 155 = .ok (.aload_n 0, 1) := by decide +kernel
theorem dX11_init_156 : decode cX11_init 156 = .ok (.iconst 4, 1) := by decide +kernel
theorem dX11_init_157 : decode cX11_init 157 = .ok (.newarray .int, 2) := by decide +kernel
theorem dX11_init_159 : decode cX11_init 159 = .ok (.putfield 65, 3) := by decide +kernel
theorem dX11_init_162 : decode cX11_init 162 = .ok (.aload_n 0, 1) := by decide +kernel
theorem dX11_init_163 : decode cX11_init 163 = .ok (.iconst 4, 1) := by decide +kernel
theorem dX11_init_164 : decode cX11_init 164 = .ok (.newarray .int, 2) := by decide +kernel
theorem dX11_init_166 : decode cX11_init 166 = .ok (.putfield 68, 3) := by decide +kernel
theorem dX11_init_169 : decode cX11_init 169 = .ok (.aload_n 0, 1) := by decide +kernel
theorem dX11_init_170 : decode cX11_init 170 = .ok (.sipush 130, 3) := by decide +kernel
theorem dX11_init_173 : decode cX11_init 173 = .ok (.newarray .int, 2) := by decide +kernel
theorem dX11_init_175 : decode cX11_init 175 = .ok (.putfield 71, 3) := by decide +kernel
theorem dX11_init_178 : decode cX11_init 178 = .ok (.aload_n 0, 1) := by decide +kernel
theorem dX11_init_179 : decode cX11_init 179 = .ok (.sipush 3072, 3) := by decide +kernel
theorem dX11_init_182 : decode cX11_init 182 = .ok (.newarray .boolean, 2) := by decide +kernel
theorem dX11_init_184 : decode cX11_init 184 = .ok (.putfield 74, 3) := by decide +kernel
theorem dX11_init_187 : decode cX11_init 187 = .ok (.aload_n 0, 1) := by decide +kernel
theorem dX11_init_188 : decode cX11_init 188 = .ok (.bipush 12, 2) := by decide +kernel
theorem dX11_init_190 : decode cX11_init 190 = .ok (.newarray .int, 2) := by decide +kernel
theorem dX11_init_192 : decode cX11_init 192 = .ok (.putfield 78, 3) := by decide +kernel
theorem dX11_init_195 : decode cX11_init 195 = .ok (.aload_n 0, 1) := by decide +kernel
theorem dX11_init_196 : decode cX11_init 196 = .ok (.bipush 12, 2) := by decide +kernel
theorem dX11_init_198 : decode cX11_init 198 = .ok (.newarray .boolean, 2) := by decide +kernel
theorem dX11_init_200 : decode cX11_init 200 = .ok (.putfield 81, 3) := by decide +kernel
theorem dX11_init_203 : decode cX11_init 203 = .ok (.return_, 1) := by decide +kernel
theorem dX11_in_0 : decode cX11_in 0 = .ok (.iload_n 0, 1) := by decide +kernel
theorem dX11_in_1 : decode cX11_in 1 = .ok (.iload_n 1, 1) := by decide +kernel
theorem dX11_in_2 : decode cX11_in 2 = .ok (.if_icmp .lt 12, 3) := by decide +kernel
theorem dX11_in_5 : decode cX11_in 5 = .ok (.iload_n 0, 1) := by decide +kernel
theorem dX11_in_6 : decode cX11_in 6 = .ok (.iload_n 2, 1) := by decide +kernel
theorem dX11_in_7 : decode cX11_in 7 = .ok (.if_icmp .gt 7, 3) := by decide +kernel
theorem dX11_in_10 : decode cX11_in 10 = .ok (.iconst 1, 1) := by decide +kernel
theorem dX11_in_11 : decode cX11_in 11 = .ok (.goto 4, 3) := by decide +kernel
theorem dX11_in_14 : decode cX11_in 14 = .ok (.iconst 0, 1) := by decide +kernel
theorem dX11_in_15 : decode cX11_in 15 = .ok (.ireturn, 1) := by decide +kernel
theorem dX11_type_0 : decode cX11_type 0 = .ok (.iload_n 2, 1) := by decide +kernel
theorem dX11_type_1 : decode cX11_type 1 = .ok (.iconst 1, 1) := by decide +kernel
theorem dX11_type_2 : decode cX11_type 2 = .ok (.iconst 4, 1) := by decide +kernel
theorem dX11_type_3 : decode cX11_type 3 = .ok (.invokestatic 84, 3) := by decide +kernel
theorem dX11_type_6 : decode cX11_type 6 = .ok (.ifCond .eq 18, 3) := by decide +kernel
theorem dX11_type_9 : decode cX11_type 9 = .ok (.aload_n 0, 1) := by decide +kernel
theorem dX11_type_10 : decode cX11_type 10 = .ok (.getfield 88, 3) := by decide +kernel
theorem dX11_type_13 : decode cX11_type 13 = .ok (.iload_n 2, 1) := by decide +kernel
theorem dX11_type_14 : decode cX11_type 14 = .ok (.iadd, 1) := by decide +kernel
theorem dX11_type_15 : decode cX11_type 15 = .ok (.bipush 120, 2) := by decide +kernel
theorem dX11_type_17 : decode cX11_type 17 = .ok (.if_icmp .gt 7, 3) := by decide +kernel
theorem dX11_type_20 : decode cX11_type 20 = .ok (.iconst 1, 1) := by decide +kernel
theorem dX11_type_21 : decode cX11_type 21 = .ok (.goto 4, 3) := by decide +kernel
theorem dX11_type_24 : decode cX11_type 24 = .ok (.iconst 0, 1) := by decide +kernel
theorem dX11_type_25 : decode cX11_type 25 = .ok (.istore_n 3, 1) := by decide +kernel
theorem dX11_type_26 : decode cX11_type 26 = .ok (.iconst 0, 1) := by decide +kernel
theorem dX11_type_27 : decode cX11_type 27 = .ok (.istore 4, 2) := by decide +kernel
theorem dX11_type_29 : decode cX11_type 29 = .ok (.iload 4, 2) := by decide +kernel
theorem dX11_type_31 : decode cX11_type 31 = .ok (.iload_n 2, 1) := by decide +kernel
theorem dX11_type_32 : decode cX11_type 32 = .ok (.if_icmp .ge 32, 3) := by decide +kernel
theorem dX11_type_35 : decode cX11_type 35 = .ok (.iload_n 3, 1) := by decide +kernel
theorem dX11_type_36 : decode cX11_type 36 = .ok (.ifCond .eq 28, 3) := by decide +kernel
theorem dX11_type_39 : decode cX11_type 39 = .ok (.iload_n 1, 1) := by decide +kernel
theorem dX11_type_40 : decode cX11_type 40 = .ok (.bipush 8, 2) := by decide +kernel
theorem dX11_type_42 : decode cX11_type 42 = .ok (.iload 4, 2) := by decide +kernel
theorem dX11_type_44 : decode cX11_type 44 = .ok (.imul, 1) := by decide +kernel
theorem dX11_type_45 : decode cX11_type 45 = .ok (.ishr, 1) := by decide +kernel
theorem dX11_type_46 : decode cX11_type 46 = .ok (.sipush 255, 3) := by decide +kernel
theorem dX11_type_49 : decode cX11_type 49 = .ok (.iand, 1) := by decide +kernel
theorem dX11_type_50 : decode cX11_type 50 = .ok (.bipush 32, 2) := by decide +kernel
theorem dX11_type_52 : decode cX11_type 52 = .ok (.bipush 126, 2) := by decide +kernel
theorem dX11_type_54 : decode cX11_type 54 = .ok (.invokestatic 84, 3) := by decide +kernel
theorem dX11_type_57 : decode cX11_type 57 = .ok (.istore_n 3, 1) := by decide +kernel
theorem dX11_type_58 : decode cX11_type 58 = .ok (.iinc 4 1, 3) := by decide +kernel
theorem dX11_type_61 : decode cX11_type 61 = .ok (.goto (-32), 3) := by decide +kernel
theorem dX11_type_64 : decode cX11_type 64 = .ok (.iload_n 2, 1) := by decide +kernel
theorem dX11_type_65 : decode cX11_type 65 = .ok (.iconst 1, 1) := by decide +kernel
theorem dX11_type_66 : decode cX11_type 66 = .ok (.isub, 1) := by decide +kernel
theorem dX11_type_67 : decode cX11_type 67 = .ok (.istore 4, 2) := by decide +kernel
theorem dX11_type_69 : decode cX11_type 69 = .ok (.iload 4, 2) := by decide +kernel
theorem dX11_type_71 : decode cX11_type 71 = .ok (.ifCond .lt 43, 3) := by decide +kernel
theorem dX11_type_74 : decode cX11_type 74 = .ok (.iload_n 3, 1) := by decide +kernel
theorem dX11_type_75 : decode cX11_type 75 = .ok (.ifCond .eq 39, 3) := by decide +kernel
theorem dX11_type_78 : decode cX11_type 78 = .ok (.aload_n 0, 1) := by decide +kernel
theorem dX11_type_79 : decode cX11_type 79 = .ok (.getfield 7, 3) := by decide +kernel
theorem dX11_type_82 : decode cX11_type 82 = .ok (.aload_n 0, 1) := by decide +kernel
theorem dX11_type_83 : decode cX11_type 83 = .ok (.getfield 88, 3) := by decide +kernel
theorem dX11_type_86 : decode cX11_type 86 = .ok (.iload_n 1, 1) := by decide +kernel
theorem dX11_type_87 : decode cX11_type 87 = .ok (.bipush 8, 2) := by decide +kernel
theorem dX11_type_89 : decode cX11_type 89 = .ok (.iload 4, 2) := by decide +kernel
theorem dX11_type_91 : decode cX11_type 91 = .ok (.imul, 1) := by decide +kernel
theorem dX11_type_92 : decode cX11_type 92 = .ok (.ishr, 1) := by decide +kernel
theorem dX11_type_93 : decode cX11_type 93 = .ok (.sipush 255, 3) := by decide +kernel
theorem dX11_type_96 : decode cX11_type 96 = .ok (.iand, 1) := by decide +kernel
theorem dX11_type_97 : decode cX11_type 97 = .ok (.iastore, 1) := by decide +kernel
theorem dX11_type_98 : decode cX11_type 98 = .ok (.aload_n 0, 1) := by decide +kernel
theorem dX11_type_99 : decode cX11_type 99 = .ok (.aload_n 0, 1) := by decide +kernel
theorem dX11_type_100 : decode cX11_type 100 = .ok (.getfield 88, 3) := by decide +kernel
theorem dX11_type_103 : decode cX11_type 103 = .ok (.iconst 1, 1) := by decide +kernel
theorem dX11_type_104 : decode cX11_type 104 = .ok (.iadd, 1) := by decide +kernel
theorem dX11_type_105 : decode cX11_type 105 = .ok (.putfield 88, 3) := by decide +kernel
theorem dX11_type_108 : decode cX11_type 108 = .ok (.iinc 4 (-1), 3) := by decide +kernel
theorem dX11_type_111 : decode cX11_type 111 = .ok (.goto (-42), 3) := by decide +kernel
theorem dX11_type_114 : decode cX11_type 114 = .ok (.iload_n 3, 1) := by decide +kernel
theorem dX11_type_115 : decode cX11_type 115 = .ok (.ireturn, 1) := by decide +kernel
theorem dX11_isLetter_0 : decode cX11_isLetter 0 = .ok (.iload_n 0, 1) := by decide +kernel
theorem dX11_isLetter_1 : decode cX11_isLetter 1 = .ok (.bipush 65, 2) := by decide +kernel
theorem dX11_isLetter_3 : decode cX11_isLetter 3 = .ok (.bipush 90, 2) := by decide +kernel
theorem dX11_isLetter_5 : decode cX11_isLetter 5 = .ok (.invokestatic 84, 3) := by decide +kernel
theorem dX11_isLetter_8 : decode cX11_isLetter 8 = .ok (.ifCond .ne 14, 3) := by decide +kernel
theorem dX11_isLetter_11 : decode cX11_isLetter 11 = .ok (.iload_n 0, 1) := by decide +kernel
theorem dX11_isLetter_12 : decode cX11_isLetter 12 = .ok (.bipush 97, 2) := by decide +kernel
theorem dX11_isLetter_14 : decode cX11_isLetter 14 = .ok (.bipush 122, 2) := by decide +kernel
theorem dX11_isLetter_16 : decode cX11_isLetter 16 = .ok (.invokestatic 84, 3) := by decide +kernel
theorem dX11_isLetter_19 : decode cX11_isLetter 19 = .ok (.ifCond .eq 7, 3) := by decide +kernel
theorem dX11_isLetter_22 : decode cX11_isLetter 22 = .ok (.iconst 1, 1) := by decide +kernel
theorem dX11_isLetter_23 : decode cX11_isLetter 23 = .ok (.goto 4, 3) := by decide +kernel
theorem dX11_isLetter_26 : decode cX11_isLetter 26 = .ok (.iconst 0, 1) := by decide +kernel
theorem dX11_isLetter_27 : decode cX11_isLetter 27 = .ok (.ireturn, 1) := by decide +kernel
theorem dX11_isDigit_0 : decode cX11_isDigit 0 = .ok (.iload_n 0, 1) := by decide +kernel
theorem dX11_isDigit_1 : decode cX11_isDigit 1 = .ok (.bipush 48, 2) := by decide +kernel
theorem dX11_isDigit_3 : decode cX11_isDigit 3 = .ok (.bipush 57, 2) := by decide +kernel
theorem dX11_isDigit_5 : decode cX11_isDigit 5 = .ok (.invokestatic 84, 3) := by decide +kernel
theorem dX11_isDigit_8 : decode cX11_isDigit 8 = .ok (.ireturn, 1) := by decide +kernel
theorem dX11_isSign_0 : decode cX11_isSign 0 = .ok (.iload_n 0, 1) := by decide +kernel
theorem dX11_isSign_1 : decode cX11_isSign 1 = .ok (.invokestatic 92, 3) := by decide +kernel
theorem dX11_isSign_4 : decode cX11_isSign 4 = .ok (.ifCond .ne 40, 3) := by decide +kernel
theorem dX11_isSign_7 : decode cX11_isSign 7 = .ok (.iload_n 0, 1) := by decide +kernel
theorem dX11_isSign_8 : decode cX11_isSign 8 = .ok (.invokestatic 96, 3) := by decide +kernel
theorem dX11_isSign_11 : decode cX11_isSign 11 = .ok (.ifCond .ne 33, 3) := by decide +kernel
theorem dX11_isSign_14 : decode cX11_isSign 14 = .ok (.iload_n 0, 1) := by decide +kernel
theorem dX11_isSign_15 : decode cX11_isSign 15 = .ok (.bipush 45, 2) := by decide +kernel
theorem dX11_isSign_17 : decode cX11_isSign 17 = .ok (.if_icmp .eq 27, 3) := by decide +kernel
theorem dX11_isSign_20 : decode cX11_isSign 20 = .ok (.iload_n 0, 1) := by decide +kernel
theorem dX11_isSign_21 : decode cX11_isSign 21 = .ok (.bipush 95, 2) := by decide +kernel
theorem dX11_isSign_23 : decode cX11_isSign 23 = .ok (.if_icmp .eq 21, 3) := by decide +kernel
theorem dX11_isSign_26 : decode cX11_isSign 26 = .ok (.iload_n 0, 1) := by decide +kernel
theorem dX11_isSign_27 : decode cX11_isSign 27 = .ok (.bipush 61, 2) := by decide +kernel
theorem dX11_isSign_29 : decode cX11_isSign 29 = .ok (.if_icmp .eq 15, 3) := by decide +kernel
theorem dX11_isSign_32 : decode cX11_isSign 32 = .ok (.iload_n 0, 1) := by decide +kernel
theorem dX11_isSign_33 : decode cX11_isSign 33 = .ok (.bipush 62, 2) := by decide +kernel
theorem dX11_isSign_35 : decode cX11_isSign 35 = .ok (.if_icmp .eq 9, 3) := by decide +kernel
theorem dX11_isSign_38 : decode cX11_isSign 38 = .ok (.iload_n 0, 1) := by decide +kernel
theorem dX11_isSign_39 : decode cX11_isSign 39 = .ok (.bipush 35, 2) := by decide +kernel
theorem dX11_isSign_41 : decode cX11_isSign 41 = .ok (.if_icmp .ne 7, 3) := by decide +kernel
theorem dX11_isSign_44 : decode cX11_isSign 44 = .ok (.iconst 1, 1) := by decide +kernel
theorem dX11_isSign_45 : decode cX11_isSign 45 = .ok (.goto 4, 3) := by decide +kernel
theorem dX11_isSign_48 : decode cX11_isSign 48 = .ok (.iconst 0, 1) := by decide +kernel
theorem dX11_isSign_49 : decode cX11_isSign 49 = .ok (.ireturn, 1) := by decide +kernel
theorem dX11_next_0 : decode cX11_next 0 = .ok (.aload_n 0, 1) := by decide +kernel
theorem dX11_next_1 : decode cX11_next 1 = .ok (.getfield 99, 3) := by decide +kernel
theorem dX11_next_4 : decode cX11_next 4 = .ok (.aload_n 0, 1) := by decide +kernel
theorem dX11_next_5 : decode cX11_next 5 = .ok (.getfield 88, 3) := by decide +kernel
theorem dX11_next_8 : decode cX11_next 8 = .ok (.if_icmp .ge 30, 3) := by decide +kernel
theorem dX11_next_11 : decode cX11_next 11 = .ok (.aload_n 0, 1) := by decide +kernel
theorem dX11_next_12 : decode cX11_next 12 = .ok (.getfield 7, 3) := by decide +kernel
theorem dX11_next_15 : decode cX11_next 15 = .ok (.aload_n 0, 1) := by decide +kernel
theorem dX11_next_16 : decode cX11_next 16 = .ok (.getfield 99, 3) := by decide +kernel
theorem dX11_next_19 : decode cX11_next 19 = .ok (.iaload, 1) := by decide +kernel
theorem dX11_next_20 : decode cX11_next 20 = .ok (.bipush 32, 2) := by decide +kernel
theorem dX11_next_22 : decode cX11_next 22 = .ok (.if_icmp .ne 16, 3) := by decide +kernel
theorem dX11_next_25 : decode cX11_next 25 = .ok (.aload_n 0, 1) := by decide +kernel
theorem dX11_next_26 : decode cX11_next 26 = .ok (.aload_n 0, 1) := by decide +kernel
theorem dX11_next_27 : decode cX11_next 27 = .ok (.getfield 99, 3) := by decide +kernel
theorem dX11_next_30 : decode cX11_next 30 = .ok (.iconst 1, 1) := by decide +kernel
theorem dX11_next_31 : decode cX11_next 31 = .ok (.iadd, 1) := by decide +kernel
theorem dX11_next_32 : decode cX11_next 32 = .ok (.putfield 99, 3) := by decide +kernel
theorem dX11_next_35 : decode cX11_next 35 = .ok (.goto (-35), 3) := by decide +kernel
theorem dX11_next_38 : decode cX11_next 38 = .ok (.aload_n 0, 1) := by decide +kernel
theorem dX11_next_39 : decode cX11_next 39 = .ok (.aload_n 0, 1) := by decide +kernel
theorem dX11_next_40 : decode cX11_next 40 = .ok (.getfield 99, 3) := by decide +kernel
theorem dX11_next_43 : decode cX11_next 43 = .ok (.putfield 102, 3) := by decide +kernel
theorem dX11_next_46 : decode cX11_next 46 = .ok (.aload_n 0, 1) := by decide +kernel
theorem dX11_next_47 : decode cX11_next 47 = .ok (.lconst 0, 1) := by decide +kernel
theorem dX11_next_48 : decode cX11_next 48 = .ok (.putfield 105, 3) := by decide +kernel
theorem dX11_next_51 : decode cX11_next 51 = .ok (.aload_n 0, 1) := by decide +kernel
theorem dX11_next_52 : decode cX11_next 52 = .ok (.lconst 0, 1) := by decide +kernel
theorem dX11_next_53 : decode cX11_next 53 = .ok (.putfield 109, 3) := by decide +kernel
theorem dX11_next_56 : decode cX11_next 56 = .ok (.aload_n 0, 1) := by decide +kernel
theorem dX11_next_57 : decode cX11_next 57 = .ok (.getfield 99, 3) := by decide +kernel
theorem dX11_next_60 : decode cX11_next 60 = .ok (.aload_n 0, 1) := by decide +kernel
theorem dX11_next_61 : decode cX11_next 61 = .ok (.getfield 88, 3) := by decide +kernel
theorem dX11_next_64 : decode cX11_next 64 = .ok (.if_icmp .ge 123, 3) := by decide +kernel
theorem dX11_next_67 : decode cX11_next 67 = .ok (.aload_n 0, 1) := by decide +kernel
theorem dX11_next_68 : decode cX11_next 68 = .ok (.getfield 7, 3) := by decide +kernel
theorem dX11_next_71 : decode cX11_next 71 = .ok (.aload_n 0, 1) := by decide +kernel
theorem dX11_next_72 : decode cX11_next 72 = .ok (.getfield 99, 3) := by decide +kernel
theorem dX11_next_75 : decode cX11_next 75 = .ok (.iaload, 1) := by decide +kernel
theorem dX11_next_76 : decode cX11_next 76 = .ok (.invokestatic 112, 3) := by decide +kernel
theorem dX11_next_79 : decode cX11_next 79 = .ok (.ifCond .eq 108, 3) := by decide +kernel
theorem dX11_next_82 : decode cX11_next 82 = .ok (.aload_n 0, 1) := by decide +kernel
theorem dX11_next_83 : decode cX11_next 83 = .ok (.getfield 99, 3) := by decide +kernel
theorem dX11_next_86 : decode cX11_next 86 = .ok (.aload_n 0, 1) := by decide +kernel
theorem dX11_next_87 : decode cX11_next 87 = .ok (.getfield 102, 3) := by decide +kernel
theorem dX11_next_90 : decode cX11_next 90 = .ok (.isub, 1) := by decide +kernel
theorem dX11_next_91 : decode cX11_next 91 = .ok (.istore_n 1, 1) := by decide +kernel
theorem dX11_next_92 : decode cX11_next 92 = .ok (.aload_n 0, 1) := by decide +kernel
theorem dX11_next_93 : decode cX11_next 93 = .ok (.iload_n 1, 1) := by decide +kernel
theorem dX11_next_94 : decode cX11_next 94 = .ok (.bipush 8, 2) := by decide +kernel
theorem dX11_next_96 : decode cX11_next 96 = .ok (.if_icmp .ge 26, 3) := by decide +kernel
theorem dX11_next_99 : decode cX11_next 99 = .ok (.aload_n 0, 1) := by decide +kernel
theorem dX11_next_100 : decode cX11_next 100 = .ok (.getfield 105, 3) := by decide +kernel
theorem dX11_next_103 : decode cX11_next 103 = .ok (.aload_n 0, 1) := by decide +kernel
theorem dX11_next_104 : decode cX11_next 104 = .ok (.getfield 7, 3) := by decide +kernel
theorem dX11_next_107 : decode cX11_next 107 = .ok (.aload_n 0, 1) := by decide +kernel
theorem dX11_next_108 : decode cX11_next 108 = .ok (.getfield 99, 3) := by decide +kernel
theorem dX11_next_111 : decode cX11_next 111 = .ok (.iaload, 1) := by decide +kernel
theorem dX11_next_112 : decode cX11_next 112 = .ok (.i2l, 1) := by decide +kernel
theorem dX11_next_113 : decode cX11_next 113 = .ok (.bipush 8, 2) := by decide +kernel
theorem dX11_next_115 : decode cX11_next 115 = .ok (.iload_n 1, 1) := by decide +kernel
theorem dX11_next_116 : decode cX11_next 116 = .ok (.imul, 1) := by decide +kernel
theorem dX11_next_117 : decode cX11_next 117 = .ok (.lshl, 1) := by decide +kernel
theorem dX11_next_118 : decode cX11_next 118 = .ok (.lor, 1) := by decide +kernel
theorem dX11_next_119 : decode cX11_next 119 = .ok (.goto 7, 3) := by decide +kernel
theorem dX11_next_122 : decode cX11_next 122 = .ok (.aload_n 0, 1) := by decide +kernel
theorem dX11_next_123 : decode cX11_next 123 = .ok (.getfield 105, 3) := by decide +kernel
theorem dX11_next_126 : decode cX11_next 126 = .ok (.putfield 105, 3) := by decide +kernel
theorem dX11_next_129 : decode cX11_next 129 = .ok (.aload_n 0, 1) := by decide +kernel
theorem dX11_next_130 : decode cX11_next 130 = .ok (.iload_n 1, 1) := by decide +kernel
theorem dX11_next_131 : decode cX11_next 131 = .ok (.bipush 8, 2) := by decide +kernel
theorem dX11_next_133 : decode cX11_next 133 = .ok (.bipush 14, 2) := by decide +kernel
theorem dX11_next_135 : decode cX11_next 135 = .ok (.invokestatic 84, 3) := by decide +kernel
theorem dX11_next_138 : decode cX11_next 138 = .ok (.ifCond .eq 29, 3) := by decide +kernel
theorem dX11_next_141 : decode cX11_next 141 = .ok (.aload_n 0, 1) := by decide +kernel
theorem dX11_next_142 : decode cX11_next 142 = .ok (.getfield 109, 3) := by decide +kernel
theorem dX11_next_145 : decode cX11_next 145 = .ok (.aload_n 0, 1) := by decide +kernel
theorem dX11_next_146 : decode cX11_next 146 = .ok (.getfield 7, 3) := by decide +kernel
theorem dX11_next_149 : decode cX11_next 149 = .ok (.aload_n 0, 1) := by decide +kernel
theorem dX11_next_150 : decode cX11_next 150 = .ok (.getfield 99, 3) := by decide +kernel
theorem dX11_next_153 : decode cX11_next 153 = .ok (.iaload, 1) := by decide +kernel
theorem dX11_next_154 : decode cX11_next 154 = .ok (.i2l, 1) := by decide +kernel
theorem dX11_next_155 : decode cX11_next 155 = .ok (.bipush 8, 2) := by decide +kernel
theorem dX11_next_157 : decode cX11_next 157 = .ok (.iload_n 1, 1) := by decide +kernel
theorem dX11_next_158 : decode cX11_next 158 = .ok (.bipush 8, 2) := by decide +kernel
theorem dX11_next_160 : decode cX11_next 160 = .ok (.isub, 1) := by decide +kernel
theorem dX11_next_161 : decode cX11_next 161 = .ok (.imul, 1) := by decide +kernel
theorem dX11_next_162 : decode cX11_next 162 = .ok (.lshl, 1) := by decide +kernel
theorem dX11_next_163 : decode cX11_next 163 = .ok (.lor, 1) := by decide +kernel
theorem dX11_next_164 : decode cX11_next 164 = .ok (.goto 7, 3) := by decide +kernel
theorem dX11_next_167 : decode cX11_next 167 = .ok (.aload_n 0, 1) := by decide +kernel
theorem dX11_next_168 : decode cX11_next 168 = .ok (.getfield 109, 3) := by decide +kernel
theorem dX11_next_171 : decode cX11_next 171 = .ok (.putfield 109, 3) := by decide +kernel
theorem dX11_next_174 : decode cX11_next 174 = .ok (.aload_n 0, 1) := by decide +kernel
theorem dX11_next_175 : decode cX11_next 175 = .ok (.aload_n 0, 1) := by decide +kernel
theorem dX11_next_176 : decode cX11_next 176 = .ok (.getfield 99, 3) := by decide +kernel
theorem dX11_next_179 : decode cX11_next 179 = .ok (.iconst 1, 1) := by decide +kernel
theorem dX11_next_180 : decode cX11_next 180 = .ok (.iadd, 1) := by decide +kernel
theorem dX11_next_181 : decode cX11_next 181 = .ok (.putfield 99, 3) := by decide +kernel
theorem dX11_next_184 : decode cX11_next 184 = .ok (.goto (-128), 3) := by decide +kernel
theorem dX11_next_187 : decode cX11_next 187 = .ok (.aload_n 0, 1) := by decide +kernel
theorem dX11_next_188 : decode cX11_next 188 = .ok (.getfield 99, 3) := by decide +kernel
theorem dX11_next_191 : decode cX11_next 191 = .ok (.aload_n 0, 1) := by decide +kernel
theorem dX11_next_192 : decode cX11_next 192 = .ok (.getfield 102, 3) := by decide +kernel
theorem dX11_next_195 : decode cX11_next 195 = .ok (.isub, 1) := by decide +kernel
theorem dX11_next_196 : decode cX11_next 196 = .ok (.istore_n 1, 1) := by decide +kernel
theorem dX11_next_197 : decode cX11_next 197 = .ok (.aload_n 0, 1) := by decide +kernel
theorem dX11_next_198 : decode cX11_next 198 = .ok (.iload_n 1, 1) := by decide +kernel
theorem dX11_next_199 : decode cX11_next 199 = .ok (.bipush 13, 2) := by decide +kernel
theorem dX11_next_201 : decode cX11_next 201 = .ok (.if_icmp .le 7, 3) := by decide +kernel
theorem dX11_next_204 : decode cX11_next 204 = .ok (.iconst 4, 1) := by decide +kernel
theorem dX11_next_205 : decode cX11_next 205 = .ok (.goto 63, 3) := by decide +kernel
theorem dX11_next_208 : decode cX11_next 208 = .ok (.iload_n 1, 1) := by decide +kernel
theorem dX11_next_209 : decode cX11_next 209 = .ok (.ifCond .le 7, 3) := by decide +kernel
theorem dX11_next_212 : decode cX11_next 212 = .ok (.iconst 3, 1) := by decide +kernel
theorem dX11_next_213 : decode cX11_next 213 = .ok (.goto 55, 3) := by decide +kernel
theorem dX11_next_216 : decode cX11_next 216 = .ok (.aload_n 0, 1) := by decide +kernel
theorem dX11_next_217 : decode cX11_next 217 = .ok (.getfield 102, 3) := by decide +kernel
theorem dX11_next_220 : decode cX11_next 220 = .ok (.aload_n 0, 1) := by decide +kernel
theorem dX11_next_221 : decode cX11_next 221 = .ok (.getfield 88, 3) := by decide +kernel
theorem dX11_next_224 : decode cX11_next 224 = .ok (.if_icmp .lt 7, 3) := by decide +kernel
theorem dX11_next_227 : decode cX11_next 227 = .ok (.iconst 0, 1) := by decide +kernel
theorem dX11_next_228 : decode cX11_next 228 = .ok (.goto 40, 3) := by decide +kernel
theorem dX11_next_231 : decode cX11_next 231 = .ok (.aload_n 0, 1) := by decide +kernel
theorem dX11_next_232 : decode cX11_next 232 = .ok (.getfield 7, 3) := by decide +kernel
theorem dX11_next_235 : decode cX11_next 235 = .ok (.aload_n 0, 1) := by decide +kernel
theorem dX11_next_236 : decode cX11_next 236 = .ok (.getfield 102, 3) := by decide +kernel
theorem dX11_next_239 : decode cX11_next 239 = .ok (.iaload, 1) := by decide +kernel
theorem dX11_next_240 : decode cX11_next 240 = .ok (.bipush 40, 2) := by decide +kernel
theorem dX11_next_242 : decode cX11_next 242 = .ok (.if_icmp .ne 7, 3) := by decide +kernel
theorem dX11_next_245 : decode cX11_next 245 = .ok (.iconst 1, 1) := by decide +kernel
theorem dX11_next_246 : decode cX11_next 246 = .ok (.goto 22, 3) := by decide +kernel
theorem dX11_next_249 : decode cX11_next 249 = .ok (.aload_n 0, 1) := by decide +kernel
theorem dX11_next_250 : decode cX11_next 250 = .ok (.getfield 7, 3) := by decide +kernel
theorem dX11_next_253 : decode cX11_next 253 = .ok (.aload_n 0, 1) := by decide +kernel
theorem dX11_next_254 : decode cX11_next 254 = .ok (.getfield 102, 3) := by decide +kernel
theorem dX11_next_257 : decode cX11_next 257 = .ok (.iaload, 1) := by decide +kernel
theorem dX11_next_258 : decode cX11_next 258 = .ok (.bipush 41, 2) := by decide +kernel
theorem dX11_next_260 : decode cX11_next 260 = .ok (.if_icmp .ne 7, 3) := by decide +kernel
theorem dX11_next_263 : decode cX11_next 263 = .ok (.iconst 2, 1) := by decide +kernel
theorem dX11_next_264 : decode cX11_next 264 = .ok (.goto 4, 3) := by decide +kernel
theorem dX11_next_267 : decode cX11_next 267 = .ok (.iconst 4, 1) := by decide +kernel
theorem dX11_next_268 : decode cX11_next 268 = .ok (.putfield 115, 3) := by decide +kernel
theorem dX11_next_271 : decode cX11_next 271 = .ok (.aload_n 0, 1) := by decide +kernel
theorem dX11_next_272 : decode cX11_next 272 = .ok (.iload_n 1, 1) := by decide +kernel
theorem dX11_next_273 : decode cX11_next 273 = .ok (.ifCond .gt 10, 3) := by decide +kernel
theorem dX11_next_276 : decode cX11_next 276 = .ok (.aload_n 0, 1) := by decide +kernel
theorem dX11_next_277 : decode cX11_next 277 = .ok (.getfield 115, 3) := by decide +kernel
theorem dX11_next_280 : decode cX11_next 280 = .ok (.ifCond .ne 10, 3) := by decide +kernel
theorem dX11_next_283 : decode cX11_next 283 = .ok (.aload_n 0, 1) := by decide +kernel
theorem dX11_next_284 : decode cX11_next 284 = .ok (.getfield 99, 3) := by decide +kernel
theorem dX11_next_287 : decode cX11_next 287 = .ok (.goto 9, 3) := by decide +kernel
theorem dX11_next_290 : decode cX11_next 290 = .ok (.aload_n 0, 1) := by decide +kernel
theorem dX11_next_291 : decode cX11_next 291 = .ok (.getfield 99, 3) := by decide +kernel
theorem dX11_next_294 : decode cX11_next 294 = .ok (.iconst 1, 1) := by decide +kernel
theorem dX11_next_295 : decode cX11_next 295 = .ok (.iadd, 1) := by decide +kernel
theorem dX11_next_296 : decode cX11_next 296 = .ok (.putfield 99, 3) := by decide +kernel
theorem dX11_next_299 : decode cX11_next 299 = .ok (.return_, 1) := by decide +kernel
theorem dX11_wrong_0 : decode cX11_wrong 0 = .ok (.aload_n 0, 1) := by decide +kernel
theorem dX11_wrong_1 : decode cX11_wrong 1 = .ok (.iload_n 1, 1) := by decide +kernel
theorem dX11_wrong_2 : decode cX11_wrong 2 = .ok (.putfield 118, 3) := by decide +kernel
theorem dX11_wrong_5 : decode cX11_wrong 5 = .ok (.iconst 0, 1) := by decide +kernel
theorem dX11_wrong_6 : decode cX11_wrong 6 = .ok (.ireturn, 1) := by decide +kernel
theorem dX11_pass_0 : decode cX11_pass 0 = .ok (.iload_n 1, 1) := by decide +kernel
theorem dX11_pass_1 : decode cX11_pass 1 = .ok (.ifCond .ne 12, 3) := by decide +kernel
theorem dX11_pass_4 : decode cX11_pass 4 = .ok (.aload_n 0, 1) := by decide +kernel
theorem dX11_pass_5 : decode cX11_pass 5 = .ok (.aload_n 0, 1) := by decide +kernel
theorem dX11_pass_6 : decode cX11_pass 6 = .ok (.getfield 102, 3) := by decide +kernel
theorem dX11_pass_9 : decode cX11_pass 9 = .ok (.invokevirtual 121, 3) := by decide +kernel
theorem dX11_pass_12 : decode cX11_pass 12 = .ok (.ireturn, 1) := by decide +kernel
theorem dX11_pass_13 : decode cX11_pass 13 = .ok (.aload_n 0, 1) := by decide +kernel
theorem dX11_pass_14 : decode cX11_pass 14 = .ok (.invokevirtual 124, 3) := by decide +kernel
theorem dX11_pass_17 : decode cX11_pass 17 = .ok (.iconst 1, 1) := by decide +kernel
theorem dX11_pass_18 : decode cX11_pass 18 = .ok (.ireturn, 1) := by decide +kernel
theorem dX11_word_0 : decode cX11_word 0 = .ok (.aload_n 0, 1) := by decide +kernel
theorem dX11_word_1 : decode cX11_word 1 = .ok (.aload_n 0, 1) := by decide +kernel
theorem dX11_word_2 : decode cX11_word 2 = .ok (.getfield 115, 3) := by decide +kernel
theorem dX11_word_5 : decode cX11_word 5 = .ok (.iconst 3, 1) := by decide +kernel
theorem dX11_word_6 : decode cX11_word 6 = .ok (.if_icmp .ne 25, 3) := by decide +kernel
theorem dX11_word_9 : decode cX11_word 9 = .ok (.aload_n 0, 1) := by decide +kernel
theorem dX11_word_10 : decode cX11_word 10 = .ok (.getfield 105, 3) := by decide +kernel
theorem dX11_word_13 : decode cX11_word 13 = .ok (.lload_n 1, 1) := by decide +kernel
theorem dX11_word_14 : decode cX11_word 14 = .ok (.lcmp, 1) := by decide +kernel
theorem dX11_word_15 : decode cX11_word 15 = .ok (.ifCond .ne 16, 3) := by decide +kernel
theorem dX11_word_18 : decode cX11_word 18 = .ok (.aload_n 0, 1) := by decide +kernel
theorem dX11_word_19 : decode cX11_word 19 = .ok (.getfield 109, 3) := by decide +kernel
theorem dX11_word_22 : decode cX11_word 22 = .ok (.lload_n 3, 1) := by decide +kernel
theorem dX11_word_23 : decode cX11_word 23 = .ok (.lcmp, 1) := by decide +kernel
theorem dX11_word_24 : decode cX11_word 24 = .ok (.ifCond .ne 7, 3) := by decide +kernel
theorem dX11_word_27 : decode cX11_word 27 = .ok (.iconst 1, 1) := by decide +kernel
theorem dX11_word_28 : decode cX11_word 28 = .ok (.goto 4, 3) := by decide +kernel
theorem dX11_word_31 : decode cX11_word 31 = .ok (.iconst 0, 1) := by decide +kernel
theorem dX11_word_32 : decode cX11_word 32 = .ok (.invokevirtual 127, 3) := by decide +kernel
theorem dX11_word_35 : decode cX11_word 35 = .ok (.ireturn, 1) := by decide +kernel
theorem dX11_number_0 : decode cX11_number 0 = .ok (.aload_n 0, 1) := by decide +kernel
theorem dX11_number_1 : decode cX11_number 1 = .ok (.getfield 99, 3) := by decide +kernel
theorem dX11_number_4 : decode cX11_number 4 = .ok (.aload_n 0, 1) := by decide +kernel
theorem dX11_number_5 : decode cX11_number 5 = .ok (.getfield 102, 3) := by decide +kernel
theorem dX11_number_8 : decode cX11_number 8 = .ok (.isub, 1) := by decide +kernel
theorem dX11_number_9 : decode cX11_number 9 = .ok (.istore_n 1, 1) := by decide +kernel
theorem dX11_number_10 : decode cX11_number 10 = .ok (.aload_n 0, 1) := by decide +kernel
theorem dX11_number_11 : decode cX11_number 11 = .ok (.getfield 115, 3) := by decide +kernel
theorem dX11_number_14 : decode cX11_number 14 = .ok (.iconst 3, 1) := by decide +kernel
theorem dX11_number_15 : decode cX11_number 15 = .ok (.if_icmp .ne 31, 3) := by decide +kernel
theorem dX11_number_18 : decode cX11_number 18 = .ok (.iload_n 1, 1) := by decide +kernel
theorem dX11_number_19 : decode cX11_number 19 = .ok (.iconst 2, 1) := by decide +kernel
theorem dX11_number_20 : decode cX11_number 20 = .ok (.if_icmp .gt 26, 3) := by decide +kernel
theorem dX11_number_23 : decode cX11_number 23 = .ok (.iload_n 1, 1) := by decide +kernel
theorem dX11_number_24 : decode cX11_number 24 = .ok (.iconst 2, 1) := by decide +kernel
theorem dX11_number_25 : decode cX11_number 25 = .ok (.if_icmp .ne 17, 3) := by decide +kernel
theorem dX11_number_28 : decode cX11_number 28 = .ok (.aload_n 0, 1) := by decide +kernel
theorem dX11_number_29 : decode cX11_number 29 = .ok (.getfield 7, 3) := by decide +kernel
theorem dX11_number_32 : decode cX11_number 32 = .ok (.aload_n 0, 1) := by decide +kernel
