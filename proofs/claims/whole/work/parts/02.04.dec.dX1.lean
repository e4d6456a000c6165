theorem dX1_init_0 : decode cX1_init 0 = .ok (.aload_n 0, 1) := by decide +kernel
theorem dX1_init_1 : decode cX1_init 1 = .ok (.invokespecial 3, 3) := by decide +kernel
theorem dX1_init_4 : decode cX1_init 4 = .ok (.aload_n 0, 1) := by decide +kernel
theorem dX1_init_5 : decode cX1_init 5 = .ok (.sipush 671, 3) := by decide +kernel
theorem dX1_init_8 : decode cX1_init 8 = .ok (.newarray .long, 2) := by decide +kernel
theorem dX1_init_10 : decode cX1_init 10 = .ok (.putfield 9, 3) := by decide +kernel
theorem dX1_init_13 : decode cX1_init 13 = .ok (.return_, 1) := by decide +kernel
theorem dX1_start_0 : decode cX1_start 0 = .ok (.iconst 0, 1) := by decide +kernel
theorem dX1_start_1 : decode cX1_start 1 = .ok (.istore_n 2, 1) := by decide +kernel
theorem dX1_start_2 : decode cX1_start 2 = .ok (.iload_n 2, 1) := by decide +kernel
theorem dX1_start_3 : decode cX1_start 3 = .ok (.bipush 11, 2) := by decide +kernel
theorem dX1_start_5 : decode cX1_start 5 = .ok (.if_icmp .ge 30, 3) := by decide +kernel
theorem dX1_start_8 : decode cX1_start 8 = .ok (.aload_n 0, 1) := by decide +kernel
theorem dX1_start_9 : decode cX1_start 9 = .ok (.getfield 9, 3) := by decide +kernel
theorem dX1_start_12 : decode cX1_start 12 = .ok (.iload_n 2, 1) := by decide +kernel
theorem dX1_start_13 : decode cX1_start 13 = .ok (.aload_n 1, 1) := by decide +kernel
theorem dX1_start_14 : decode cX1_start 14 = .ok (.iload_n 2, 1) := by decide +kernel
theorem dX1_start_15 : decode cX1_start 15 = .ok (.invokevirtual 15, 3) := by decide +kernel
theorem dX1_start_18 : decode cX1_start 18 = .ok (.ifCond .eq 7, 3) := by decide +kernel
theorem dX1_start_21 : decode cX1_start 21 = .ok (.lconst 0, 1) := by decide +kernel
theorem dX1_start_22 : decode cX1_start 22 = .ok (.goto 6, 3) := by decide +kernel
theorem dX1_start_25 : decode cX1_start 25 = .ok (.ldc2_w 21, 3) := by decide +kernel
theorem dX1_start_28 : decode cX1_start 28 = .ok (.lastore, 1) := by decide +kernel
theorem dX1_start_29 : decode cX1_start 29 = .ok (.iinc 2 1, 3) := by decide +kernel
theorem dX1_start_32 : decode cX1_start 32 = .ok (.goto (-30), 3) := by decide +kernel
theorem dX1_start_35 : decode cX1_start 35 = .ok (.return_, 1) := by decide +kernel
theorem dX1_build_0 : decode cX1_build 0 = .ok (.iload_n 3, 1) := by decide +kernel
theorem dX1_build_1 : decode cX1_build 1 = .ok (.istore 4, 2) := by decide +kernel
theorem dX1_build_3 : decode cX1_build 3 = .ok (.iload 4, 2) := by decide +kernel
theorem dX1_build_5 : decode cX1_build 5 = .ok (.aload_n 2, 1) := by decide +kernel
theorem dX1_build_6 : decode cX1_build 6 = .ok (.getfield 23, 3) := by decide +kernel
theorem dX1_build_9 : decode cX1_build 9 = .ok (.if_icmp .ge 56, 3) := by decide +kernel
theorem dX1_build_12 : decode cX1_build 12 = .ok (.iconst 0, 1) := by decide +kernel
theorem dX1_build_13 : decode cX1_build 13 = .ok (.istore 5, 2) := by decide +kernel
theorem dX1_build_15 : decode cX1_build 15 = .ok (.iload 5, 2) := by decide +kernel
theorem dX1_build_17 : decode cX1_build 17 = .ok (.bipush 11, 2) := by decide +kernel
theorem dX1_build_19 : decode cX1_build 19 = .ok (.if_icmp .ge 40, 3) := by decide +kernel
theorem dX1_build_22 : decode cX1_build 22 = .ok (.aload_n 0, 1) := by decide +kernel
theorem dX1_build_23 : decode cX1_build 23 = .ok (.getfield 9, 3) := by decide +kernel
theorem dX1_build_26 : decode cX1_build 26 = .ok (.iload 4, 2) := by decide +kernel
theorem dX1_build_28 : decode cX1_build 28 = .ok (.iconst 1, 1) := by decide +kernel
theorem dX1_build_29 : decode cX1_build 29 = .ok (.iadd, 1) := by decide +kernel
theorem dX1_build_30 : decode cX1_build 30 = .ok (.bipush 11, 2) := by decide +kernel
theorem dX1_build_32 : decode cX1_build 32 = .ok (.imul, 1) := by decide +kernel
theorem dX1_build_33 : decode cX1_build 33 = .ok (.iload 5, 2) := by decide +kernel
theorem dX1_build_35 : decode cX1_build 35 = .ok (.iadd, 1) := by decide +kernel
theorem dX1_build_36 : decode cX1_build 36 = .ok (.aload_n 0, 1) := by decide +kernel
theorem dX1_build_37 : decode cX1_build 37 = .ok (.aload_n 1, 1) := by decide +kernel
theorem dX1_build_38 : decode cX1_build 38 = .ok (.iload 5, 2) := by decide +kernel
theorem dX1_build_40 : decode cX1_build 40 = .ok (.aload_n 2, 1) := by decide +kernel
theorem dX1_build_41 : decode cX1_build 41 = .ok (.getfield 29, 3) := by decide +kernel
theorem dX1_build_44 : decode cX1_build 44 = .ok (.iload 4, 2) := by decide +kernel
theorem dX1_build_46 : decode cX1_build 46 = .ok (.iaload, 1) := by decide +kernel
theorem dX1_build_47 : decode cX1_build 47 = .ok (.iload 4, 2) := by decide +kernel
theorem dX1_build_49 : decode cX1_build 49 = .ok (.invokevirtual 33, 3) := by decide +kernel
theorem dX1_build_52 : decode cX1_build 52 = .ok (.lastore, 1) := by decide +kernel
theorem dX1_build_53 : decode cX1_build 53 = .ok (.iinc 5 1, 3) := by decide +kernel
theorem dX1_build_56 : decode cX1_build 56 = .ok (.goto (-41), 3) := by decide +kernel
theorem dX1_build_59 : decode cX1_build 59 = .ok (.iinc 4 1, 3) := by decide +kernel
theorem dX1_build_62 : decode cX1_build 62 = .ok (.goto (-59), 3) := by decide +kernel
theorem dX1_build_65 : decode cX1_build 65 = .ok (.return_, 1) := by decide +kernel
theorem dX1_across_0 : decode cX1_across 0 = .ok (.ldc2_w 21, 3) := by decide +kernel
theorem dX1_across_3 : decode cX1_across 3 = .ok (.lstore 5, 2) := by decide +kernel
theorem dX1_across_5 : decode cX1_across 5 = .ok (.iconst 0, 1) := by decide +kernel
theorem dX1_across_6 : decode cX1_across 6 = .ok (.istore 7, 2) := by decide +kernel
theorem dX1_across_8 : decode cX1_across 8 = .ok (.iload 7, 2) := by decide +kernel
theorem dX1_across_10 : decode cX1_across 10 = .ok (.bipush 11, 2) := by decide +kernel
theorem dX1_across_12 : decode cX1_across 12 = .ok (.if_icmp .ge 52, 3) := by decide +kernel
theorem dX1_across_15 : decode cX1_across 15 = .ok (.aload_n 0, 1) := by decide +kernel
theorem dX1_across_16 : decode cX1_across 16 = .ok (.getfield 9, 3) := by decide +kernel
theorem dX1_across_19 : decode cX1_across 19 = .ok (.iload 4, 2) := by decide +kernel
theorem dX1_across_21 : decode cX1_across 21 = .ok (.bipush 11, 2) := by decide +kernel
theorem dX1_across_23 : decode cX1_across 23 = .ok (.imul, 1) := by decide +kernel
theorem dX1_across_24 : decode cX1_across 24 = .ok (.iload 7, 2) := by decide +kernel
theorem dX1_across_26 : decode cX1_across 26 = .ok (.iadd, 1) := by decide +kernel
theorem dX1_across_27 : decode cX1_across 27 = .ok (.laload, 1) := by decide +kernel
theorem dX1_across_28 : decode cX1_across 28 = .ok (.lstore 8, 2) := by decide +kernel
theorem dX1_across_30 : decode cX1_across 30 = .ok (.lload 8, 2) := by decide +kernel
theorem dX1_across_32 : decode cX1_across 32 = .ok (.lload 5, 2) := by decide +kernel
theorem dX1_across_34 : decode cX1_across 34 = .ok (.lcmp, 1) := by decide +kernel
theorem dX1_across_35 : decode cX1_across 35 = .ok (.ifCond .ge 23, 3) := by decide +kernel
theorem dX1_across_38 : decode cX1_across 38 = .ok (.lload 5, 2) := by decide +kernel
theorem dX1_across_40 : decode cX1_across 40 = .ok (.aload_n 1, 1) := by decide +kernel
theorem dX1_across_41 : decode cX1_across 41 = .ok (.iload_n 2, 1) := by decide +kernel
theorem dX1_across_42 : decode cX1_across 42 = .ok (.iload_n 3, 1) := by decide +kernel
theorem dX1_across_43 : decode cX1_across 43 = .ok (.iload 7, 2) := by decide +kernel
theorem dX1_across_45 : decode cX1_across 45 = .ok (.invokevirtual 37, 3) := by decide +kernel
theorem dX1_across_48 : decode cX1_across 48 = .ok (.lload 8, 2) := by decide +kernel
theorem dX1_across_50 : decode cX1_across 50 = .ok (.invokestatic 41, 3) := by decide +kernel
theorem dX1_across_53 : decode cX1_across 53 = .ok (.invokestatic 45, 3) := by decide +kernel
theorem dX1_across_56 : decode cX1_across 56 = .ok (.lstore 5, 2) := by decide +kernel
theorem dX1_across_58 : decode cX1_across 58 = .ok (.iinc 7 1, 3) := by decide +kernel
theorem dX1_across_61 : decode cX1_across 61 = .ok (.goto (-53), 3) := by decide +kernel
theorem dX1_across_64 : decode cX1_across 64 = .ok (.lload 5, 2) := by decide +kernel
theorem dX1_across_66 : decode cX1_across 66 = .ok (.lreturn, 1) := by decide +kernel
theorem dX1_after_0 : decode cX1_after 0 = .ok (.aload_n 2, 1) := by decide +kernel
theorem dX1_after_1 : decode cX1_after 1 = .ok (.getfield 50, 3) := by decide +kernel
theorem dX1_after_4 : decode cX1_after 4 = .ok (.iload_n 3, 1) := by decide +kernel
theorem dX1_after_5 : decode cX1_after 5 = .ok (.iaload, 1) := by decide +kernel
theorem dX1_after_6 : decode cX1_after 6 = .ok (.istore 5, 2) := by decide +kernel
theorem dX1_after_8 : decode cX1_after 8 = .ok (.aload_n 2, 1) := by decide +kernel
theorem dX1_after_9 : decode cX1_after 9 = .ok (.getfield 55, 3) := by decide +kernel
theorem dX1_after_12 : decode cX1_after 12 = .ok (.iload_n 3, 1) := by decide +kernel
theorem dX1_after_13 : decode cX1_after 13 = .ok (.iaload, 1) := by decide +kernel
theorem dX1_after_14 : decode cX1_after 14 = .ok (.iconst (-1), 1) := by decide +kernel
theorem dX1_after_15 : decode cX1_after 15 = .ok (.if_icmp .ne 17, 3) := by decide +kernel
theorem dX1_after_18 : decode cX1_after 18 = .ok (.aload_n 0, 1) := by decide +kernel
theorem dX1_after_19 : decode cX1_after 19 = .ok (.getfield 9, 3) := by decide +kernel
theorem dX1_after_22 : decode cX1_after 22 = .ok (.iload 4, 2) := by decide +kernel
theorem dX1_after_24 : decode cX1_after 24 = .ok (.bipush 11, 2) := by decide +kernel
theorem dX1_after_26 : decode cX1_after 26 = .ok (.imul, 1) := by decide +kernel
theorem dX1_after_27 : decode cX1_after 27 = .ok (.iload 5, 2) := by decide +kernel
theorem dX1_after_29 : decode cX1_after 29 = .ok (.iadd, 1) := by decide +kernel
theorem dX1_after_30 : decode cX1_after 30 = .ok (.laload, 1) := by decide +kernel
theorem dX1_after_31 : decode cX1_after 31 = .ok (.lreturn, 1) := by decide +kernel
theorem dX1_after_32 : decode cX1_after 32 = .ok (.aload_n 2, 1) := by decide +kernel
theorem dX1_after_33 : decode cX1_after 33 = .ok (.getfield 58, 3) := by decide +kernel
theorem dX1_after_36 : decode cX1_after 36 = .ok (.iload_n 3, 1) := by decide +kernel
theorem dX1_after_37 : decode cX1_after 37 = .ok (.iaload, 1) := by decide +kernel
theorem dX1_after_38 : decode cX1_after 38 = .ok (.iconst (-1), 1) := by decide +kernel
theorem dX1_after_39 : decode cX1_after 39 = .ok (.if_icmp .ne 19, 3) := by decide +kernel
theorem dX1_after_42 : decode cX1_after 42 = .ok (.aload_n 0, 1) := by decide +kernel
theorem dX1_after_43 : decode cX1_after 43 = .ok (.aload_n 1, 1) := by decide +kernel
theorem dX1_after_44 : decode cX1_after 44 = .ok (.iload 5, 2) := by decide +kernel
theorem dX1_after_46 : decode cX1_after 46 = .ok (.aload_n 2, 1) := by decide +kernel
theorem dX1_after_47 : decode cX1_after 47 = .ok (.getfield 55, 3) := by decide +kernel
theorem dX1_after_50 : decode cX1_after 50 = .ok (.iload_n 3, 1) := by decide +kernel
theorem dX1_after_51 : decode cX1_after 51 = .ok (.iaload, 1) := by decide +kernel
theorem dX1_after_52 : decode cX1_after 52 = .ok (.iload 4, 2) := by decide +kernel
theorem dX1_after_54 : decode cX1_after 54 = .ok (.invokevirtual 33, 3) := by decide +kernel
theorem dX1_after_57 : decode cX1_after 57 = .ok (.lreturn, 1) := by decide +kernel
theorem dX1_after_58 : decode cX1_after 58 = .ok (.ldc2_w 21, 3) := by decide +kernel
theorem dX1_after_61 : decode cX1_after 61 = .ok (.lstore 6, 2) := by decide +kernel
theorem dX1_after_63 : decode cX1_after 63 = .ok (.iconst 0, 1) := by decide +kernel
theorem dX1_after_64 : decode cX1_after 64 = .ok (.istore 8, 2) := by decide +kernel
theorem dX1_after_66 : decode cX1_after 66 = .ok (.iload 8, 2) := by decide +kernel
theorem dX1_after_68 : decode cX1_after 68 = .ok (.bipush 11, 2) := by decide +kernel
theorem dX1_after_70 : decode cX1_after 70 = .ok (.if_icmp .ge 60, 3) := by decide +kernel
theorem dX1_after_73 : decode cX1_after 73 = .ok (.aload_n 1, 1) := by decide +kernel
theorem dX1_after_74 : decode cX1_after 74 = .ok (.iload 5, 2) := by decide +kernel
theorem dX1_after_76 : decode cX1_after 76 = .ok (.aload_n 2, 1) := by decide +kernel
theorem dX1_after_77 : decode cX1_after 77 = .ok (.getfield 55, 3) := by decide +kernel
theorem dX1_after_80 : decode cX1_after 80 = .ok (.iload_n 3, 1) := by decide +kernel
theorem dX1_after_81 : decode cX1_after 81 = .ok (.iaload, 1) := by decide +kernel
theorem dX1_after_82 : decode cX1_after 82 = .ok (.iload 8, 2) := by decide +kernel
theorem dX1_after_84 : decode cX1_after 84 = .ok (.invokevirtual 37, 3) := by decide +kernel
theorem dX1_after_87 : decode cX1_after 87 = .ok (.lstore 9, 2) := by decide +kernel
theorem dX1_after_89 : decode cX1_after 89 = .ok (.lload 9, 2) := by decide +kernel
theorem dX1_after_91 : decode cX1_after 91 = .ok (.lload 6, 2) := by decide +kernel
theorem dX1_after_93 : decode cX1_after 93 = .ok (.lcmp, 1) := by decide +kernel
theorem dX1_after_94 : decode cX1_after 94 = .ok (.ifCond .ge 30, 3) := by decide +kernel
theorem dX1_after_97 : decode cX1_after 97 = .ok (.lload 6, 2) := by decide +kernel
theorem dX1_after_99 : decode cX1_after 99 = .ok (.lload 9, 2) := by decide +kernel
theorem dX1_after_101 : decode cX1_after 101 = .ok (.aload_n 0, 1) := by decide +kernel
theorem dX1_after_102 : decode cX1_after 102 = .ok (.aload_n 1, 1) := by decide +kernel
theorem dX1_after_103 : decode cX1_after 103 = .ok (.iload 8, 2) := by decide +kernel
theorem dX1_after_105 : decode cX1_after 105 = .ok (.aload_n 2, 1) := by decide +kernel
theorem dX1_after_106 : decode cX1_after 106 = .ok (.getfield 58, 3) := by decide +kernel
theorem dX1_after_109 : decode cX1_after 109 = .ok (.iload_n 3, 1) := by decide +kernel
theorem dX1_after_110 : decode cX1_after 110 = .ok (.iaload, 1) := by decide +kernel
theorem dX1_after_111 : decode cX1_after 111 = .ok (.iload 4, 2) := by decide +kernel
theorem dX1_after_113 : decode cX1_after 113 = .ok (.invokevirtual 33, 3) := by decide +kernel
theorem dX1_after_116 : decode cX1_after 116 = .ok (.invokestatic 41, 3) := by decide +kernel
theorem dX1_after_119 : decode cX1_after 119 = .ok (.invokestatic 45, 3) := by decide +kernel
theorem dX1_after_122 : decode cX1_after 122 = .ok (.lstore 6, 2) := by decide +kernel
theorem dX1_after_124 : decode cX1_after 124 = .ok (.iinc 8 1, 3) := by decide +kernel
theorem dX1_after_127 : decode cX1_after 127 = .ok (.goto (-61), 3) := by decide +kernel
theorem dX1_after_130 : decode cX1_after 130 = .ok (.lload 6, 2) := by decide +kernel
theorem dX1_after_132 : decode cX1_after 132 = .ok (.lreturn, 1) := by decide +kernel
