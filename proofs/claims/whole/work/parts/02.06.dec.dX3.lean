theorem dX3_init_0 : decode cX3_init 0 = .ok (.aload_n 0, 1) := by decide +kernel
theorem dX3_init_1 : decode cX3_init 1 = .ok (.invokespecial 3, 3) := by decide +kernel
theorem dX3_init_4 : decode cX3_init 4 = .ok (.aload_n 0, 1) := by decide +kernel
theorem dX3_init_5 : decode cX3_init 5 = .ok (.bipush 125, 2) := by decide +kernel
theorem dX3_init_7 : decode cX3_init 7 = .ok (.newarray .long, 2) := by decide +kernel
theorem dX3_init_9 : decode cX3_init 9 = .ok (.putfield 9, 3) := by decide +kernel
theorem dX3_init_12 : decode cX3_init 12 = .ok (.aload_n 0, 1) := by decide +kernel
theorem dX3_init_13 : decode cX3_init 13 = .ok (.iconst (-1), 1) := by decide +kernel
theorem dX3_init_14 : decode cX3_init 14 = .ok (.putfield 15, 3) := by decide +kernel
theorem dX3_init_17 : decode cX3_init 17 = .ok (.return_, 1) := by decide +kernel
theorem dX3_renew_0 : decode cX3_renew 0 = .ok (.aload_n 0, 1) := by decide +kernel
theorem dX3_renew_1 : decode cX3_renew 1 = .ok (.getfield 15, 3) := by decide +kernel
theorem dX3_renew_4 : decode cX3_renew 4 = .ok (.aload_n 1, 1) := by decide +kernel
theorem dX3_renew_5 : decode cX3_renew 5 = .ok (.getfield 19, 3) := by decide +kernel
theorem dX3_renew_8 : decode cX3_renew 8 = .ok (.if_icmp .ne 4, 3) := by decide +kernel
theorem dX3_renew_11 : decode cX3_renew 11 = .ok (.return_, 1) := by decide +kernel
theorem dX3_renew_12 : decode cX3_renew 12 = .ok (.aload_n 0, 1) := by decide +kernel
theorem dX3_renew_13 : decode cX3_renew 13 = .ok (.aload_n 1, 1) := by decide +kernel
theorem dX3_renew_14 : decode cX3_renew 14 = .ok (.getfield 19, 3) := by decide +kernel
theorem dX3_renew_17 : decode cX3_renew 17 = .ok (.putfield 15, 3) := by decide +kernel
theorem dX3_renew_20 : decode cX3_renew 20 = .ok (.aload_n 0, 1) := by decide +kernel
theorem dX3_renew_21 : decode cX3_renew 21 = .ok (.getfield 9, 3) := by decide +kernel
theorem dX3_renew_24 : decode cX3_renew 24 = .ok (.ldc2_w 24, 3) := by decide +kernel
theorem dX3_renew_27 : decode cX3_renew 27 = .ok (.invokestatic 26, 3) := by decide +kernel
theorem dX3_renew_30 : decode cX3_renew 30 = .ok (.iconst 1, 1) := by decide +kernel
theorem dX3_renew_31 : decode cX3_renew 31 = .ok (.istore_n 2, 1) := by decide +kernel
theorem dX3_renew_32 : decode cX3_renew 32 = .ok (.iconst 0, 1) := by decide +kernel
theorem dX3_renew_33 : decode cX3_renew 33 = .ok (.istore_n 3, 1) := by decide +kernel
theorem dX3_renew_34 : decode cX3_renew 34 = .ok (.iload_n 2, 1) := by decide +kernel
theorem dX3_renew_35 : decode cX3_renew 35 = .ok (.ifCond .eq 58, 3) := by decide +kernel
theorem dX3_renew_38 : decode cX3_renew 38 = .ok (.iload_n 3, 1) := by decide +kernel
theorem dX3_renew_39 : decode cX3_renew 39 = .ok (.aload_n 0, 1) := by decide +kernel
theorem dX3_renew_40 : decode cX3_renew 40 = .ok (.getfield 9, 3) := by decide +kernel
theorem dX3_renew_43 : decode cX3_renew 43 = .ok (.arraylength, 1) := by decide +kernel
theorem dX3_renew_44 : decode cX3_renew 44 = .ok (.if_icmp .gt 49, 3) := by decide +kernel
theorem dX3_renew_47 : decode cX3_renew 47 = .ok (.iconst 0, 1) := by decide +kernel
theorem dX3_renew_48 : decode cX3_renew 48 = .ok (.istore_n 2, 1) := by decide +kernel
theorem dX3_renew_49 : decode cX3_renew 49 = .ok (.iconst 0, 1) := by decide +kernel
theorem dX3_renew_50 : decode cX3_renew 50 = .ok (.istore 4, 2) := by decide +kernel
theorem dX3_renew_52 : decode cX3_renew 52 = .ok (.iload 4, 2) := by decide +kernel
theorem dX3_renew_54 : decode cX3_renew 54 = .ok (.aload_n 1, 1) := by decide +kernel
theorem dX3_renew_55 : decode cX3_renew 55 = .ok (.getfield 32, 3) := by decide +kernel
theorem dX3_renew_58 : decode cX3_renew 58 = .ok (.if_icmp .ge 29, 3) := by decide +kernel
theorem dX3_renew_61 : decode cX3_renew 61 = .ok (.aload_n 0, 1) := by decide +kernel
theorem dX3_renew_62 : decode cX3_renew 62 = .ok (.aload_n 1, 1) := by decide +kernel
theorem dX3_renew_63 : decode cX3_renew 63 = .ok (.iload 4, 2) := by decide +kernel
theorem dX3_renew_65 : decode cX3_renew 65 = .ok (.invokevirtual 35, 3) := by decide +kernel
theorem dX3_renew_68 : decode cX3_renew 68 = .ok (.ifCond .ne 7, 3) := by decide +kernel
theorem dX3_renew_71 : decode cX3_renew 71 = .ok (.iload_n 2, 1) := by decide +kernel
theorem dX3_renew_72 : decode cX3_renew 72 = .ok (.ifCond .eq 7, 3) := by decide +kernel
theorem dX3_renew_75 : decode cX3_renew 75 = .ok (.iconst 1, 1) := by decide +kernel
theorem dX3_renew_76 : decode cX3_renew 76 = .ok (.goto 4, 3) := by decide +kernel
theorem dX3_renew_79 : decode cX3_renew 79 = .ok (.iconst 0, 1) := by decide +kernel
theorem dX3_renew_80 : decode cX3_renew 80 = .ok (.istore_n 2, 1) := by decide +kernel
theorem dX3_renew_81 : decode cX3_renew 81 = .ok (.iinc 4 1, 3) := by decide +kernel
theorem dX3_renew_84 : decode cX3_renew 84 = .ok (.goto (-32), 3) := by decide +kernel
theorem dX3_renew_87 : decode cX3_renew 87 = .ok (.iinc 3 1, 3) := by decide +kernel
theorem dX3_renew_90 : decode cX3_renew 90 = .ok (.goto (-56), 3) := by decide +kernel
theorem dX3_renew_93 : decode cX3_renew 93 = .ok (.return_, 1) := by decide +kernel
theorem dX3_lowerBy_0 : decode cX3_lowerBy 0 = .ok (.aload_n 1, 1) := by decide +kernel
theorem dX3_lowerBy_1 : decode cX3_lowerBy 1 = .ok (.getfield 39, 3) := by decide +kernel
theorem dX3_lowerBy_4 : decode cX3_lowerBy 4 = .ok (.iload_n 2, 1) := by decide +kernel
theorem dX3_lowerBy_5 : decode cX3_lowerBy 5 = .ok (.iaload, 1) := by decide +kernel
theorem dX3_lowerBy_6 : decode cX3_lowerBy 6 = .ok (.iconst 5, 1) := by decide +kernel
theorem dX3_lowerBy_7 : decode cX3_lowerBy 7 = .ok (.imul, 1) := by decide +kernel
theorem dX3_lowerBy_8 : decode cX3_lowerBy 8 = .ok (.istore_n 3, 1) := by decide +kernel
theorem dX3_lowerBy_9 : decode cX3_lowerBy 9 = .ok (.aload_n 1, 1) := by decide +kernel
theorem dX3_lowerBy_10 : decode cX3_lowerBy 10 = .ok (.getfield 43, 3) := by decide +kernel
theorem dX3_lowerBy_13 : decode cX3_lowerBy 13 = .ok (.iload_n 2, 1) := by decide +kernel
theorem dX3_lowerBy_14 : decode cX3_lowerBy 14 = .ok (.iaload, 1) := by decide +kernel
theorem dX3_lowerBy_15 : decode cX3_lowerBy 15 = .ok (.iconst (-1), 1) := by decide +kernel
theorem dX3_lowerBy_16 : decode cX3_lowerBy 16 = .ok (.if_icmp .ne 17, 3) := by decide +kernel
theorem dX3_lowerBy_19 : decode cX3_lowerBy 19 = .ok (.aload_n 0, 1) := by decide +kernel
theorem dX3_lowerBy_20 : decode cX3_lowerBy 20 = .ok (.iload_n 3, 1) := by decide +kernel
theorem dX3_lowerBy_21 : decode cX3_lowerBy 21 = .ok (.aload_n 1, 1) := by decide +kernel
theorem dX3_lowerBy_22 : decode cX3_lowerBy 22 = .ok (.getfield 46, 3) := by decide +kernel
theorem dX3_lowerBy_25 : decode cX3_lowerBy 25 = .ok (.iload_n 2, 1) := by decide +kernel
theorem dX3_lowerBy_26 : decode cX3_lowerBy 26 = .ok (.iaload, 1) := by decide +kernel
theorem dX3_lowerBy_27 : decode cX3_lowerBy 27 = .ok (.iadd, 1) := by decide +kernel
theorem dX3_lowerBy_28 : decode cX3_lowerBy 28 = .ok (.lconst 1, 1) := by decide +kernel
theorem dX3_lowerBy_29 : decode cX3_lowerBy 29 = .ok (.invokevirtual 49, 3) := by decide +kernel
theorem dX3_lowerBy_32 : decode cX3_lowerBy 32 = .ok (.ireturn, 1) := by decide +kernel
theorem dX3_lowerBy_33 : decode cX3_lowerBy 33 = .ok (.aload_n 1, 1) := by decide +kernel
theorem dX3_lowerBy_34 : decode cX3_lowerBy 34 = .ok (.getfield 46, 3) := by decide +kernel
theorem dX3_lowerBy_37 : decode cX3_lowerBy 37 = .ok (.iload_n 2, 1) := by decide +kernel
theorem dX3_lowerBy_38 : decode cX3_lowerBy 38 = .ok (.iaload, 1) := by decide +kernel
theorem dX3_lowerBy_39 : decode cX3_lowerBy 39 = .ok (.aload_n 1, 1) := by decide +kernel
theorem dX3_lowerBy_40 : decode cX3_lowerBy 40 = .ok (.getfield 43, 3) := by decide +kernel
theorem dX3_lowerBy_43 : decode cX3_lowerBy 43 = .ok (.iload_n 2, 1) := by decide +kernel
theorem dX3_lowerBy_44 : decode cX3_lowerBy 44 = .ok (.iaload, 1) := by decide +kernel
theorem dX3_lowerBy_45 : decode cX3_lowerBy 45 = .ok (.invokestatic 53, 3) := by decide +kernel
theorem dX3_lowerBy_48 : decode cX3_lowerBy 48 = .ok (.iconst 5, 1) := by decide +kernel
theorem dX3_lowerBy_49 : decode cX3_lowerBy 49 = .ok (.imul, 1) := by decide +kernel
theorem dX3_lowerBy_50 : decode cX3_lowerBy 50 = .ok (.istore 4, 2) := by decide +kernel
theorem dX3_lowerBy_52 : decode cX3_lowerBy 52 = .ok (.iconst 0, 1) := by decide +kernel
theorem dX3_lowerBy_53 : decode cX3_lowerBy 53 = .ok (.istore 5, 2) := by decide +kernel
theorem dX3_lowerBy_55 : decode cX3_lowerBy 55 = .ok (.iconst 0, 1) := by decide +kernel
theorem dX3_lowerBy_56 : decode cX3_lowerBy 56 = .ok (.istore 6, 2) := by decide +kernel
theorem dX3_lowerBy_58 : decode cX3_lowerBy 58 = .ok (.iload 6, 2) := by decide +kernel
theorem dX3_lowerBy_60 : decode cX3_lowerBy 60 = .ok (.aload_n 1, 1) := by decide +kernel
theorem dX3_lowerBy_61 : decode cX3_lowerBy 61 = .ok (.getfield 57, 3) := by decide +kernel
theorem dX3_lowerBy_64 : decode cX3_lowerBy 64 = .ok (.if_icmp .ge 95, 3) := by decide +kernel
theorem dX3_lowerBy_67 : decode cX3_lowerBy 67 = .ok (.lconst 1, 1) := by decide +kernel
theorem dX3_lowerBy_68 : decode cX3_lowerBy 68 = .ok (.aload_n 0, 1) := by decide +kernel
theorem dX3_lowerBy_69 : decode cX3_lowerBy 69 = .ok (.getfield 9, 3) := by decide +kernel
theorem dX3_lowerBy_72 : decode cX3_lowerBy 72 = .ok (.iload 4, 2) := by decide +kernel
theorem dX3_lowerBy_74 : decode cX3_lowerBy 74 = .ok (.iload 6, 2) := by decide +kernel
theorem dX3_lowerBy_76 : decode cX3_lowerBy 76 = .ok (.iadd, 1) := by decide +kernel
theorem dX3_lowerBy_77 : decode cX3_lowerBy 77 = .ok (.laload, 1) := by decide +kernel
theorem dX3_lowerBy_78 : decode cX3_lowerBy 78 = .ok (.invokestatic 60, 3) := by decide +kernel
theorem dX3_lowerBy_81 : decode cX3_lowerBy 81 = .ok (.lstore 7, 2) := by decide +kernel
theorem dX3_lowerBy_83 : decode cX3_lowerBy 83 = .ok (.lload 7, 2) := by decide +kernel
theorem dX3_lowerBy_85 : decode cX3_lowerBy 85 = .ok (.ldc2_w 24, 3) := by decide +kernel
theorem dX3_lowerBy_88 : decode cX3_lowerBy 88 = .ok (.lcmp, 1) := by decide +kernel
theorem dX3_lowerBy_89 : decode cX3_lowerBy 89 = .ok (.ifCond .eq 64, 3) := by decide +kernel
theorem dX3_lowerBy_92 : decode cX3_lowerBy 92 = .ok (.aload_n 1, 1) := by decide +kernel
theorem dX3_lowerBy_93 : decode cX3_lowerBy 93 = .ok (.getfield 64, 3) := by decide +kernel
theorem dX3_lowerBy_96 : decode cX3_lowerBy 96 = .ok (.iload_n 2, 1) := by decide +kernel
theorem dX3_lowerBy_97 : decode cX3_lowerBy 97 = .ok (.iaload, 1) := by decide +kernel
theorem dX3_lowerBy_98 : decode cX3_lowerBy 98 = .ok (.iconst (-1), 1) := by decide +kernel
theorem dX3_lowerBy_99 : decode cX3_lowerBy 99 = .ok (.if_icmp .ne 16, 3) := by decide +kernel
theorem dX3_lowerBy_102 : decode cX3_lowerBy 102 = .ok (.aload_n 0, 1) := by decide +kernel
theorem dX3_lowerBy_103 : decode cX3_lowerBy 103 = .ok (.iload_n 3, 1) := by decide +kernel
theorem dX3_lowerBy_104 : decode cX3_lowerBy 104 = .ok (.iload 6, 2) := by decide +kernel
theorem dX3_lowerBy_106 : decode cX3_lowerBy 106 = .ok (.iadd, 1) := by decide +kernel
theorem dX3_lowerBy_107 : decode cX3_lowerBy 107 = .ok (.lload 7, 2) := by decide +kernel
theorem dX3_lowerBy_109 : decode cX3_lowerBy 109 = .ok (.invokevirtual 49, 3) := by decide +kernel
theorem dX3_lowerBy_112 : decode cX3_lowerBy 112 = .ok (.goto 22, 3) := by decide +kernel
theorem dX3_lowerBy_115 : decode cX3_lowerBy 115 = .ok (.aload_n 0, 1) := by decide +kernel
theorem dX3_lowerBy_116 : decode cX3_lowerBy 116 = .ok (.aload_n 1, 1) := by decide +kernel
theorem dX3_lowerBy_117 : decode cX3_lowerBy 117 = .ok (.iload_n 3, 1) := by decide +kernel
theorem dX3_lowerBy_118 : decode cX3_lowerBy 118 = .ok (.lload 7, 2) := by decide +kernel
theorem dX3_lowerBy_120 : decode cX3_lowerBy 120 = .ok (.iload 6, 2) := by decide +kernel
theorem dX3_lowerBy_122 : decode cX3_lowerBy 122 = .ok (.aload_n 1, 1) := by decide +kernel
theorem dX3_lowerBy_123 : decode cX3_lowerBy 123 = .ok (.getfield 64, 3) := by decide +kernel
theorem dX3_lowerBy_126 : decode cX3_lowerBy 126 = .ok (.iload_n 2, 1) := by decide +kernel
theorem dX3_lowerBy_127 : decode cX3_lowerBy 127 = .ok (.iaload, 1) := by decide +kernel
theorem dX3_lowerBy_128 : decode cX3_lowerBy 128 = .ok (.invokestatic 53, 3) := by decide +kernel
theorem dX3_lowerBy_131 : decode cX3_lowerBy 131 = .ok (.invokevirtual 67, 3) := by decide +kernel
theorem dX3_lowerBy_134 : decode cX3_lowerBy 134 = .ok (.istore 9, 2) := by decide +kernel
theorem dX3_lowerBy_136 : decode cX3_lowerBy 136 = .ok (.iload 9, 2) := by decide +kernel
theorem dX3_lowerBy_138 : decode cX3_lowerBy 138 = .ok (.ifCond .ne 8, 3) := by decide +kernel
theorem dX3_lowerBy_141 : decode cX3_lowerBy 141 = .ok (.iload 5, 2) := by decide +kernel
theorem dX3_lowerBy_143 : decode cX3_lowerBy 143 = .ok (.ifCond .eq 7, 3) := by decide +kernel
theorem dX3_lowerBy_146 : decode cX3_lowerBy 146 = .ok (.iconst 1, 1) := by decide +kernel
theorem dX3_lowerBy_147 : decode cX3_lowerBy 147 = .ok (.goto 4, 3) := by decide +kernel
theorem dX3_lowerBy_150 : decode cX3_lowerBy 150 = .ok (.iconst 0, 1) := by decide +kernel
theorem dX3_lowerBy_151 : decode cX3_lowerBy 151 = .ok (.istore 5, 2) := by decide +kernel
theorem dX3_lowerBy_153 : decode cX3_lowerBy 153 = .ok (.iinc 6 1, 3) := by decide +kernel
theorem dX3_lowerBy_156 : decode cX3_lowerBy 156 = .ok (.goto (-98), 3) := by decide +kernel
theorem dX3_lowerBy_159 : decode cX3_lowerBy 159 = .ok (.iload 5, 2) := by decide +kernel
theorem dX3_lowerBy_161 : decode cX3_lowerBy 161 = .ok (.ireturn, 1) := by decide +kernel
theorem dX3_lowerRow_0 : decode cX3_lowerRow 0 = .ok (.iconst 0, 1) := by decide +kernel
theorem dX3_lowerRow_1 : decode cX3_lowerRow 1 = .ok (.istore 6, 2) := by decide +kernel
theorem dX3_lowerRow_3 : decode cX3_lowerRow 3 = .ok (.iconst 0, 1) := by decide +kernel
theorem dX3_lowerRow_4 : decode cX3_lowerRow 4 = .ok (.istore 7, 2) := by decide +kernel
theorem dX3_lowerRow_6 : decode cX3_lowerRow 6 = .ok (.iload 7, 2) := by decide +kernel
theorem dX3_lowerRow_8 : decode cX3_lowerRow 8 = .ok (.aload_n 1, 1) := by decide +kernel
theorem dX3_lowerRow_9 : decode cX3_lowerRow 9 = .ok (.getfield 57, 3) := by decide +kernel
theorem dX3_lowerRow_12 : decode cX3_lowerRow 12 = .ok (.if_icmp .ge 48, 3) := by decide +kernel
theorem dX3_lowerRow_15 : decode cX3_lowerRow 15 = .ok (.aload_n 0, 1) := by decide +kernel
theorem dX3_lowerRow_16 : decode cX3_lowerRow 16 = .ok (.iload_n 2, 1) := by decide +kernel
theorem dX3_lowerRow_17 : decode cX3_lowerRow 17 = .ok (.iload 7, 2) := by decide +kernel
theorem dX3_lowerRow_19 : decode cX3_lowerRow 19 = .ok (.iadd, 1) := by decide +kernel
theorem dX3_lowerRow_20 : decode cX3_lowerRow 20 = .ok (.lload_n 3, 1) := by decide +kernel
theorem dX3_lowerRow_21 : decode cX3_lowerRow 21 = .ok (.aload_n 0, 1) := by decide +kernel
theorem dX3_lowerRow_22 : decode cX3_lowerRow 22 = .ok (.getfield 9, 3) := by decide +kernel
theorem dX3_lowerRow_25 : decode cX3_lowerRow 25 = .ok (.iload 5, 2) := by decide +kernel
theorem dX3_lowerRow_27 : decode cX3_lowerRow 27 = .ok (.iconst 5, 1) := by decide +kernel
theorem dX3_lowerRow_28 : decode cX3_lowerRow 28 = .ok (.imul, 1) := by decide +kernel
theorem dX3_lowerRow_29 : decode cX3_lowerRow 29 = .ok (.iload 7, 2) := by decide +kernel
theorem dX3_lowerRow_31 : decode cX3_lowerRow 31 = .ok (.iadd, 1) := by decide +kernel
theorem dX3_lowerRow_32 : decode cX3_lowerRow 32 = .ok (.laload, 1) := by decide +kernel
theorem dX3_lowerRow_33 : decode cX3_lowerRow 33 = .ok (.invokestatic 60, 3) := by decide +kernel
theorem dX3_lowerRow_36 : decode cX3_lowerRow 36 = .ok (.invokevirtual 49, 3) := by decide +kernel
theorem dX3_lowerRow_39 : decode cX3_lowerRow 39 = .ok (.ifCond .ne 8, 3) := by decide +kernel
theorem dX3_lowerRow_42 : decode cX3_lowerRow 42 = .ok (.iload 6, 2) := by decide +kernel
theorem dX3_lowerRow_44 : decode cX3_lowerRow 44 = .ok (.ifCond .eq 7, 3) := by decide +kernel
theorem dX3_lowerRow_47 : decode cX3_lowerRow 47 = .ok (.iconst 1, 1) := by decide +kernel
theorem dX3_lowerRow_48 : decode cX3_lowerRow 48 = .ok (.goto 4, 3) := by decide +kernel
theorem dX3_lowerRow_51 : decode cX3_lowerRow 51 = .ok (.iconst 0, 1) := by decide +kernel
theorem dX3_lowerRow_52 : decode cX3_lowerRow 52 = .ok (.istore 6, 2) := by decide +kernel
theorem dX3_lowerRow_54 : decode cX3_lowerRow 54 = .ok (.iinc 7 1, 3) := by decide +kernel
theorem dX3_lowerRow_57 : decode cX3_lowerRow 57 = .ok (.goto (-51), 3) := by decide +kernel
theorem dX3_lowerRow_60 : decode cX3_lowerRow 60 = .ok (.iload 6, 2) := by decide +kernel
theorem dX3_lowerRow_62 : decode cX3_lowerRow 62 = .ok (.ireturn, 1) := by decide +kernel
theorem dX3_lower_0 : decode cX3_lower 0 = .ok (.lload_n 2, 1) := by decide +kernel
theorem dX3_lower_1 : decode cX3_lower 1 = .ok (.aload_n 0, 1) := by decide +kernel
theorem dX3_lower_2 : decode cX3_lower 2 = .ok (.getfield 9, 3) := by decide +kernel
theorem dX3_lower_5 : decode cX3_lower 5 = .ok (.iload_n 1, 1) := by decide +kernel
theorem dX3_lower_6 : decode cX3_lower 6 = .ok (.laload, 1) := by decide +kernel
theorem dX3_lower_7 : decode cX3_lower 7 = .ok (.lcmp, 1) := by decide +kernel
theorem dX3_lower_8 : decode cX3_lower 8 = .ok (.ifCond .lt 5, 3) := by decide +kernel
theorem dX3_lower_11 : decode cX3_lower 11 = .ok (.iconst 0, 1) := by decide +kernel
theorem dX3_lower_12 : decode cX3_lower 12 = .ok (.ireturn, 1) := by decide +kernel
theorem dX3_lower_13 : decode cX3_lower 13 = .ok (.aload_n 0, 1) := by decide +kernel
theorem dX3_lower_14 : decode cX3_lower 14 = .ok (.getfield 9, 3) := by decide +kernel
theorem dX3_lower_17 : decode cX3_lower 17 = .ok (.iload_n 1, 1) := by decide +kernel
theorem dX3_lower_18 : decode cX3_lower 18 = .ok (.lload_n 2, 1) := by decide +kernel
theorem dX3_lower_19 : decode cX3_lower 19 = .ok (.lastore, 1) := by decide +kernel
theorem dX3_lower_20 : decode cX3_lower 20 = .ok (.iconst 1, 1) := by decide +kernel
theorem dX3_lower_21 : decode cX3_lower 21 = .ok (.ireturn, 1) := by decide +kernel
