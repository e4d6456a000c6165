theorem dX0_init_0 : decode cX0_init 0 = .ok (.aload_n 0, 1) := by decide +kernel
theorem dX0_init_1 : decode cX0_init 1 = .ok (.invokespecial 3, 3) := by decide +kernel
theorem dX0_init_4 : decode cX0_init 4 = .ok (.aload_n 0, 1) := by decide +kernel
theorem dX0_init_5 : decode cX0_init 5 = .ok (.bipush 25, 2) := by decide +kernel
theorem dX0_init_7 : decode cX0_init 7 = .ok (.newarray .int, 2) := by decide +kernel
theorem dX0_init_9 : decode cX0_init 9 = .ok (.putfield 9, 3) := by decide +kernel
theorem dX0_init_12 : decode cX0_init 12 = .ok (.aload_n 0, 1) := by decide +kernel
theorem dX0_init_13 : decode cX0_init 13 = .ok (.bipush 25, 2) := by decide +kernel
theorem dX0_init_15 : decode cX0_init 15 = .ok (.newarray .int, 2) := by decide +kernel
theorem dX0_init_17 : decode cX0_init 17 = .ok (.putfield 15, 3) := by decide +kernel
theorem dX0_init_20 : decode cX0_init 20 = .ok (.aload_n 0, 1) := by decide +kernel
theorem dX0_init_21 : decode cX0_init 21 = .ok (.bipush 25, 2) := by decide +kernel
theorem dX0_init_23 : decode cX0_init 23 = .ok (.newarray .int, 2) := by decide +kernel
theorem dX0_init_25 : decode cX0_init 25 = .ok (.putfield 18, 3) := by decide +kernel
theorem dX0_init_28 : decode cX0_init 28 = .ok (.aload_n 0, 1) := by decide +kernel
theorem dX0_init_29 : decode cX0_init 29 = .ok (.iconst 0, 1) := by decide +kernel
theorem dX0_init_30 : decode cX0_init 30 = .ok (.putfield 21, 3) := by decide +kernel
theorem dX0_init_33 : decode cX0_init 33 = .ok (.aload_n 0, 1) := by decide +kernel
theorem dX0_init_34 : decode cX0_init 34 = .ok (.iconst 0, 1) := by decide +kernel
theorem dX0_init_35 : decode cX0_init 35 = .ok (.putfield 25, 3) := by decide +kernel
theorem dX0_init_38 : decode cX0_init 38 = .ok (.aload_n 0, 1) := by decide +kernel
theorem dX0_init_39 : decode cX0_init 39 = .ok (.iconst (-1), 1) := by decide +kernel
theorem dX0_init_40 : decode cX0_init 40 = .ok (.putfield 28, 3) := by decide +kernel
theorem dX0_init_43 : decode cX0_init 43 = .ok (.return_, 1) := by decide +kernel
theorem dX0_renew_0 : decode cX0_renew 0 = .ok (.aload_n 0, 1) := by decide +kernel
theorem dX0_renew_1 : decode cX0_renew 1 = .ok (.getfield 28, 3) := by decide +kernel
theorem dX0_renew_4 : decode cX0_renew 4 = .ok (.aload_n 1, 1) := by decide +kernel
theorem dX0_renew_5 : decode cX0_renew 5 = .ok (.getfield 31, 3) := by decide +kernel
theorem dX0_renew_8 : decode cX0_renew 8 = .ok (.if_icmp .ne 4, 3) := by decide +kernel
theorem dX0_renew_11 : decode cX0_renew 11 = .ok (.return_, 1) := by decide +kernel
theorem dX0_renew_12 : decode cX0_renew 12 = .ok (.aload_n 0, 1) := by decide +kernel
theorem dX0_renew_13 : decode cX0_renew 13 = .ok (.aload_n 1, 1) := by decide +kernel
theorem dX0_renew_14 : decode cX0_renew 14 = .ok (.getfield 31, 3) := by decide +kernel
theorem dX0_renew_17 : decode cX0_renew 17 = .ok (.putfield 28, 3) := by decide +kernel
theorem dX0_renew_20 : decode cX0_renew 20 = .ok (.aload_n 0, 1) := by decide +kernel
theorem dX0_renew_21 : decode cX0_renew 21 = .ok (.aload_n 2, 1) := by decide +kernel
theorem dX0_renew_22 : decode cX0_renew 22 = .ok (.invokevirtual 36, 3) := by decide +kernel
theorem dX0_renew_25 : decode cX0_renew 25 = .ok (.aload_n 0, 1) := by decide +kernel
theorem dX0_renew_26 : decode cX0_renew 26 = .ok (.aload_n 1, 1) := by decide +kernel
theorem dX0_renew_27 : decode cX0_renew 27 = .ok (.invokevirtual 40, 3) := by decide +kernel
theorem dX0_renew_30 : decode cX0_renew 30 = .ok (.aload_n 0, 1) := by decide +kernel
theorem dX0_renew_31 : decode cX0_renew 31 = .ok (.aload_n 1, 1) := by decide +kernel
theorem dX0_renew_32 : decode cX0_renew 32 = .ok (.invokevirtual 44, 3) := by decide +kernel
theorem dX0_renew_35 : decode cX0_renew 35 = .ok (.aload_n 0, 1) := by decide +kernel
theorem dX0_renew_36 : decode cX0_renew 36 = .ok (.aload_n 1, 1) := by decide +kernel
theorem dX0_renew_37 : decode cX0_renew 37 = .ok (.invokevirtual 47, 3) := by decide +kernel
theorem dX0_renew_40 : decode cX0_renew 40 = .ok (.return_, 1) := by decide +kernel
theorem dX0_findExits_0 : decode cX0_findExits 0 = .ok (.iconst 0, 1) := by decide +kernel
theorem dX0_findExits_1 : decode cX0_findExits 1 = .ok (.istore_n 2, 1) := by decide +kernel
theorem dX0_findExits_2 : decode cX0_findExits 2 = .ok (.iload_n 2, 1) := by decide +kernel
theorem dX0_findExits_3 : decode cX0_findExits 3 = .ok (.bipush 25, 2) := by decide +kernel
theorem dX0_findExits_5 : decode cX0_findExits 5 = .ok (.if_icmp .ge 58, 3) := by decide +kernel
theorem dX0_findExits_8 : decode cX0_findExits 8 = .ok (.aload_n 0, 1) := by decide +kernel
theorem dX0_findExits_9 : decode cX0_findExits 9 = .ok (.getfield 9, 3) := by decide +kernel
theorem dX0_findExits_12 : decode cX0_findExits 12 = .ok (.iload_n 2, 1) := by decide +kernel
theorem dX0_findExits_13 : decode cX0_findExits 13 = .ok (.iconst 0, 1) := by decide +kernel
theorem dX0_findExits_14 : decode cX0_findExits 14 = .ok (.iastore, 1) := by decide +kernel
theorem dX0_findExits_15 : decode cX0_findExits 15 = .ok (.iconst 0, 1) := by decide +kernel
theorem dX0_findExits_16 : decode cX0_findExits 16 = .ok (.istore_n 3, 1) := by decide +kernel
theorem dX0_findExits_17 : decode cX0_findExits 17 = .ok (.iload_n 3, 1) := by decide +kernel
theorem dX0_findExits_18 : decode cX0_findExits 18 = .ok (.iconst 5, 1) := by decide +kernel
theorem dX0_findExits_19 : decode cX0_findExits 19 = .ok (.if_icmp .ge 38, 3) := by decide +kernel
theorem dX0_findExits_22 : decode cX0_findExits 22 = .ok (.aload_n 1, 1) := by decide +kernel
theorem dX0_findExits_23 : decode cX0_findExits 23 = .ok (.getfield 50, 3) := by decide +kernel
theorem dX0_findExits_26 : decode cX0_findExits 26 = .ok (.iload_n 2, 1) := by decide +kernel
theorem dX0_findExits_27 : decode cX0_findExits 27 = .ok (.iconst 5, 1) := by decide +kernel
theorem dX0_findExits_28 : decode cX0_findExits 28 = .ok (.imul, 1) := by decide +kernel
theorem dX0_findExits_29 : decode cX0_findExits 29 = .ok (.iload_n 3, 1) := by decide +kernel
theorem dX0_findExits_30 : decode cX0_findExits 30 = .ok (.iadd, 1) := by decide +kernel
theorem dX0_findExits_31 : decode cX0_findExits 31 = .ok (.laload, 1) := by decide +kernel
theorem dX0_findExits_32 : decode cX0_findExits 32 = .ok (.ldc2_w 56, 3) := by decide +kernel
theorem dX0_findExits_35 : decode cX0_findExits 35 = .ok (.lcmp, 1) := by decide +kernel
theorem dX0_findExits_36 : decode cX0_findExits 36 = .ok (.ifCond .eq 15, 3) := by decide +kernel
theorem dX0_findExits_39 : decode cX0_findExits 39 = .ok (.aload_n 0, 1) := by decide +kernel
theorem dX0_findExits_40 : decode cX0_findExits 40 = .ok (.getfield 9, 3) := by decide +kernel
theorem dX0_findExits_43 : decode cX0_findExits 43 = .ok (.iload_n 2, 1) := by decide +kernel
theorem dX0_findExits_44 : decode cX0_findExits 44 = .ok (.dup2, 1) := by decide +kernel
theorem dX0_findExits_45 : decode cX0_findExits 45 = .ok (.iaload, 1) := by decide +kernel
theorem dX0_findExits_46 : decode cX0_findExits 46 = .ok (.iconst 1, 1) := by decide +kernel
theorem dX0_findExits_47 : decode cX0_findExits 47 = .ok (.iload_n 3, 1) := by decide +kernel
theorem dX0_findExits_48 : decode cX0_findExits 48 = .ok (.ishl, 1) := by decide +kernel
theorem dX0_findExits_49 : decode cX0_findExits 49 = .ok (.ior, 1) := by decide +kernel
theorem dX0_findExits_50 : decode cX0_findExits 50 = .ok (.iastore, 1) := by decide +kernel
theorem dX0_findExits_51 : decode cX0_findExits 51 = .ok (.iinc 3 1, 3) := by decide +kernel
theorem dX0_findExits_54 : decode cX0_findExits 54 = .ok (.goto (-37), 3) := by decide +kernel
theorem dX0_findExits_57 : decode cX0_findExits 57 = .ok (.iinc 2 1, 3) := by decide +kernel
theorem dX0_findExits_60 : decode cX0_findExits 60 = .ok (.goto (-58), 3) := by decide +kernel
theorem dX0_findExits_63 : decode cX0_findExits 63 = .ok (.return_, 1) := by decide +kernel
theorem dX0_findAhead_0 : decode cX0_findAhead 0 = .ok (.aload_n 0, 1) := by decide +kernel
theorem dX0_findAhead_1 : decode cX0_findAhead 1 = .ok (.getfield 15, 3) := by decide +kernel
theorem dX0_findAhead_4 : decode cX0_findAhead 4 = .ok (.iconst 0, 1) := by decide +kernel
theorem dX0_findAhead_5 : decode cX0_findAhead 5 = .ok (.invokestatic 58, 3) := by decide +kernel
theorem dX0_findAhead_8 : decode cX0_findAhead 8 = .ok (.iconst 0, 1) := by decide +kernel
theorem dX0_findAhead_9 : decode cX0_findAhead 9 = .ok (.istore_n 2, 1) := by decide +kernel
theorem dX0_findAhead_10 : decode cX0_findAhead 10 = .ok (.iload_n 2, 1) := by decide +kernel
theorem dX0_findAhead_11 : decode cX0_findAhead 11 = .ok (.aload_n 1, 1) := by decide +kernel
theorem dX0_findAhead_12 : decode cX0_findAhead 12 = .ok (.getfield 64, 3) := by decide +kernel
theorem dX0_findAhead_15 : decode cX0_findAhead 15 = .ok (.if_icmp .ge 57, 3) := by decide +kernel
theorem dX0_findAhead_18 : decode cX0_findAhead 18 = .ok (.aload_n 1, 1) := by decide +kernel
theorem dX0_findAhead_19 : decode cX0_findAhead 19 = .ok (.getfield 67, 3) := by decide +kernel
theorem dX0_findAhead_22 : decode cX0_findAhead 22 = .ok (.iload_n 2, 1) := by decide +kernel
theorem dX0_findAhead_23 : decode cX0_findAhead 23 = .ok (.iaload, 1) := by decide +kernel
theorem dX0_findAhead_24 : decode cX0_findAhead 24 = .ok (.iconst (-1), 1) := by decide +kernel
theorem dX0_findAhead_25 : decode cX0_findAhead 25 = .ok (.if_icmp .eq 41, 3) := by decide +kernel
theorem dX0_findAhead_28 : decode cX0_findAhead 28 = .ok (.aload_n 0, 1) := by decide +kernel
theorem dX0_findAhead_29 : decode cX0_findAhead 29 = .ok (.getfield 15, 3) := by decide +kernel
theorem dX0_findAhead_32 : decode cX0_findAhead 32 = .ok (.aload_n 1, 1) := by decide +kernel
theorem dX0_findAhead_33 : decode cX0_findAhead 33 = .ok (.getfield 70, 3) := by decide +kernel
theorem dX0_findAhead_36 : decode cX0_findAhead 36 = .ok (.iload_n 2, 1) := by decide +kernel
theorem dX0_findAhead_37 : decode cX0_findAhead 37 = .ok (.iaload, 1) := by decide +kernel
theorem dX0_findAhead_38 : decode cX0_findAhead 38 = .ok (.dup2, 1) := by decide +kernel
theorem dX0_findAhead_39 : decode cX0_findAhead 39 = .ok (.iaload, 1) := by decide +kernel
theorem dX0_findAhead_40 : decode cX0_findAhead 40 = .ok (.iconst 1, 1) := by decide +kernel
theorem dX0_findAhead_41 : decode cX0_findAhead 41 = .ok (.aload_n 1, 1) := by decide +kernel
theorem dX0_findAhead_42 : decode cX0_findAhead 42 = .ok (.getfield 73, 3) := by decide +kernel
theorem dX0_findAhead_45 : decode cX0_findAhead 45 = .ok (.iload_n 2, 1) := by decide +kernel
theorem dX0_findAhead_46 : decode cX0_findAhead 46 = .ok (.iaload, 1) := by decide +kernel
theorem dX0_findAhead_47 : decode cX0_findAhead 47 = .ok (.aload_n 1, 1) := by decide +kernel
theorem dX0_findAhead_48 : decode cX0_findAhead 48 = .ok (.getfield 67, 3) := by decide +kernel
theorem dX0_findAhead_51 : decode cX0_findAhead 51 = .ok (.iload_n 2, 1) := by decide +kernel
theorem dX0_findAhead_52 : decode cX0_findAhead 52 = .ok (.iaload, 1) := by decide +kernel
theorem dX0_findAhead_53 : decode cX0_findAhead 53 = .ok (.invokestatic 76, 3) := by decide +kernel
theorem dX0_findAhead_56 : decode cX0_findAhead 56 = .ok (.ishl, 1) := by decide +kernel
theorem dX0_findAhead_57 : decode cX0_findAhead 57 = .ok (.aload_n 0, 1) := by decide +kernel
theorem dX0_findAhead_58 : decode cX0_findAhead 58 = .ok (.aload_n 1, 1) := by decide +kernel
theorem dX0_findAhead_59 : decode cX0_findAhead 59 = .ok (.iload_n 2, 1) := by decide +kernel
theorem dX0_findAhead_60 : decode cX0_findAhead 60 = .ok (.invokevirtual 80, 3) := by decide +kernel
theorem dX0_findAhead_63 : decode cX0_findAhead 63 = .ok (.ior, 1) := by decide +kernel
theorem dX0_findAhead_64 : decode cX0_findAhead 64 = .ok (.ior, 1) := by decide +kernel
theorem dX0_findAhead_65 : decode cX0_findAhead 65 = .ok (.iastore, 1) := by decide +kernel
theorem dX0_findAhead_66 : decode cX0_findAhead 66 = .ok (.iinc 2 1, 3) := by decide +kernel
theorem dX0_findAhead_69 : decode cX0_findAhead 69 = .ok (.goto (-59), 3) := by decide +kernel
theorem dX0_findAhead_72 : decode cX0_findAhead 72 = .ok (.iconst 0, 1) := by decide +kernel
theorem dX0_findAhead_73 : decode cX0_findAhead 73 = .ok (.istore_n 2, 1) := by decide +kernel
theorem dX0_findAhead_74 : decode cX0_findAhead 74 = .ok (.iload_n 2, 1) := by decide +kernel
theorem dX0_findAhead_75 : decode cX0_findAhead 75 = .ok (.bipush 25, 2) := by decide +kernel
theorem dX0_findAhead_77 : decode cX0_findAhead 77 = .ok (.if_icmp .ge 51, 3) := by decide +kernel
theorem dX0_findAhead_80 : decode cX0_findAhead 80 = .ok (.iconst 0, 1) := by decide +kernel
theorem dX0_findAhead_81 : decode cX0_findAhead 81 = .ok (.istore_n 3, 1) := by decide +kernel
theorem dX0_findAhead_82 : decode cX0_findAhead 82 = .ok (.iload_n 3, 1) := by decide +kernel
theorem dX0_findAhead_83 : decode cX0_findAhead 83 = .ok (.bipush 25, 2) := by decide +kernel
theorem dX0_findAhead_85 : decode cX0_findAhead 85 = .ok (.if_icmp .ge 37, 3) := by decide +kernel
theorem dX0_findAhead_88 : decode cX0_findAhead 88 = .ok (.aload_n 0, 1) := by decide +kernel
theorem dX0_findAhead_89 : decode cX0_findAhead 89 = .ok (.getfield 15, 3) := by decide +kernel
theorem dX0_findAhead_92 : decode cX0_findAhead 92 = .ok (.iload_n 3, 1) := by decide +kernel
theorem dX0_findAhead_93 : decode cX0_findAhead 93 = .ok (.iaload, 1) := by decide +kernel
theorem dX0_findAhead_94 : decode cX0_findAhead 94 = .ok (.iload_n 2, 1) := by decide +kernel
theorem dX0_findAhead_95 : decode cX0_findAhead 95 = .ok (.invokestatic 84, 3) := by decide +kernel
theorem dX0_findAhead_98 : decode cX0_findAhead 98 = .ok (.ifCond .eq 18, 3) := by decide +kernel
theorem dX0_findAhead_101 : decode cX0_findAhead 101 = .ok (.aload_n 0, 1) := by decide +kernel
theorem dX0_findAhead_102 : decode cX0_findAhead 102 = .ok (.getfield 15, 3) := by decide +kernel
theorem dX0_findAhead_105 : decode cX0_findAhead 105 = .ok (.iload_n 3, 1) := by decide +kernel
theorem dX0_findAhead_106 : decode cX0_findAhead 106 = .ok (.dup2, 1) := by decide +kernel
theorem dX0_findAhead_107 : decode cX0_findAhead 107 = .ok (.iaload, 1) := by decide +kernel
theorem dX0_findAhead_108 : decode cX0_findAhead 108 = .ok (.aload_n 0, 1) := by decide +kernel
theorem dX0_findAhead_109 : decode cX0_findAhead 109 = .ok (.getfield 15, 3) := by decide +kernel
theorem dX0_findAhead_112 : decode cX0_findAhead 112 = .ok (.iload_n 2, 1) := by decide +kernel
theorem dX0_findAhead_113 : decode cX0_findAhead 113 = .ok (.iaload, 1) := by decide +kernel
theorem dX0_findAhead_114 : decode cX0_findAhead 114 = .ok (.ior, 1) := by decide +kernel
theorem dX0_findAhead_115 : decode cX0_findAhead 115 = .ok (.iastore, 1) := by decide +kernel
theorem dX0_findAhead_116 : decode cX0_findAhead 116 = .ok (.iinc 3 1, 3) := by decide +kernel
theorem dX0_findAhead_119 : decode cX0_findAhead 119 = .ok (.goto (-37), 3) := by decide +kernel
theorem dX0_findAhead_122 : decode cX0_findAhead 122 = .ok (.iinc 2 1, 3) := by decide +kernel
theorem dX0_findAhead_125 : decode cX0_findAhead 125 = .ok (.goto (-51), 3) := by decide +kernel
theorem dX0_findAhead_128 : decode cX0_findAhead 128 = .ok (.return_, 1) := by decide +kernel
theorem dX0_uncovered_0 : decode cX0_uncovered 0 = .ok (.iconst 0, 1) := by decide +kernel
theorem dX0_uncovered_1 : decode cX0_uncovered 1 = .ok (.istore_n 3, 1) := by decide +kernel
theorem dX0_uncovered_2 : decode cX0_uncovered 2 = .ok (.aload_n 1, 1) := by decide +kernel
theorem dX0_uncovered_3 : decode cX0_uncovered 3 = .ok (.getfield 88, 3) := by decide +kernel
theorem dX0_uncovered_6 : decode cX0_uncovered 6 = .ok (.iload_n 2, 1) := by decide +kernel
theorem dX0_uncovered_7 : decode cX0_uncovered 7 = .ok (.iaload, 1) := by decide +kernel
theorem dX0_uncovered_8 : decode cX0_uncovered 8 = .ok (.iconst (-1), 1) := by decide +kernel
theorem dX0_uncovered_9 : decode cX0_uncovered 9 = .ok (.if_icmp .eq 66, 3) := by decide +kernel
theorem dX0_uncovered_12 : decode cX0_uncovered 12 = .ok (.aload_n 0, 1) := by decide +kernel
theorem dX0_uncovered_13 : decode cX0_uncovered 13 = .ok (.getfield 9, 3) := by decide +kernel
theorem dX0_uncovered_16 : decode cX0_uncovered 16 = .ok (.aload_n 1, 1) := by decide +kernel
theorem dX0_uncovered_17 : decode cX0_uncovered 17 = .ok (.getfield 73, 3) := by decide +kernel
theorem dX0_uncovered_20 : decode cX0_uncovered 20 = .ok (.iload_n 2, 1) := by decide +kernel
theorem dX0_uncovered_21 : decode cX0_uncovered 21 = .ok (.iaload, 1) := by decide +kernel
theorem dX0_uncovered_22 : decode cX0_uncovered 22 = .ok (.aload_n 1, 1) := by decide +kernel
theorem dX0_uncovered_23 : decode cX0_uncovered 23 = .ok (.getfield 67, 3) := by decide +kernel
theorem dX0_uncovered_26 : decode cX0_uncovered 26 = .ok (.iload_n 2, 1) := by decide +kernel
theorem dX0_uncovered_27 : decode cX0_uncovered 27 = .ok (.iaload, 1) := by decide +kernel
theorem dX0_uncovered_28 : decode cX0_uncovered 28 = .ok (.invokestatic 76, 3) := by decide +kernel
theorem dX0_uncovered_31 : decode cX0_uncovered 31 = .ok (.iaload, 1) := by decide +kernel
theorem dX0_uncovered_32 : decode cX0_uncovered 32 = .ok (.istore 4, 2) := by decide +kernel
theorem dX0_uncovered_34 : decode cX0_uncovered 34 = .ok (.iconst 0, 1) := by decide +kernel
theorem dX0_uncovered_35 : decode cX0_uncovered 35 = .ok (.istore 5, 2) := by decide +kernel
theorem dX0_uncovered_37 : decode cX0_uncovered 37 = .ok (.iload 5, 2) := by decide +kernel
theorem dX0_uncovered_39 : decode cX0_uncovered 39 = .ok (.iconst 5, 1) := by decide +kernel
theorem dX0_uncovered_40 : decode cX0_uncovered 40 = .ok (.if_icmp .ge 35, 3) := by decide +kernel
theorem dX0_uncovered_43 : decode cX0_uncovered 43 = .ok (.iload 4, 2) := by decide +kernel
theorem dX0_uncovered_45 : decode cX0_uncovered 45 = .ok (.iload 5, 2) := by decide +kernel
theorem dX0_uncovered_47 : decode cX0_uncovered 47 = .ok (.invokestatic 84, 3) := by decide +kernel
theorem dX0_uncovered_50 : decode cX0_uncovered 50 = .ok (.ifCond .eq 19, 3) := by decide +kernel
theorem dX0_uncovered_53 : decode cX0_uncovered 53 = .ok (.iload_n 3, 1) := by decide +kernel
theorem dX0_uncovered_54 : decode cX0_uncovered 54 = .ok (.iconst 1, 1) := by decide +kernel
theorem dX0_uncovered_55 : decode cX0_uncovered 55 = .ok (.iload 5, 2) := by decide +kernel
theorem dX0_uncovered_57 : decode cX0_uncovered 57 = .ok (.aload_n 1, 1) := by decide +kernel
theorem dX0_uncovered_58 : decode cX0_uncovered 58 = .ok (.getfield 88, 3) := by decide +kernel
theorem dX0_uncovered_61 : decode cX0_uncovered 61 = .ok (.iload_n 2, 1) := by decide +kernel
theorem dX0_uncovered_62 : decode cX0_uncovered 62 = .ok (.iaload, 1) := by decide +kernel
theorem dX0_uncovered_63 : decode cX0_uncovered 63 = .ok (.invokestatic 76, 3) := by decide +kernel
theorem dX0_uncovered_66 : decode cX0_uncovered 66 = .ok (.ishl, 1) := by decide +kernel
theorem dX0_uncovered_67 : decode cX0_uncovered 67 = .ok (.ior, 1) := by decide +kernel
theorem dX0_uncovered_68 : decode cX0_uncovered 68 = .ok (.istore_n 3, 1) := by decide +kernel
theorem dX0_uncovered_69 : decode cX0_uncovered 69 = .ok (.iinc 5 1, 3) := by decide +kernel
theorem dX0_uncovered_72 : decode cX0_uncovered 72 = .ok (.goto (-35), 3) := by decide +kernel
theorem dX0_uncovered_75 : decode cX0_uncovered 75 = .ok (.iload_n 3, 1) := by decide +kernel
theorem dX0_uncovered_76 : decode cX0_uncovered 76 = .ok (.ireturn, 1) := by decide +kernel
theorem dX0_findCircles_0 : decode cX0_findCircles 0 = .ok (.iconst 0, 1) := by decide +kernel
theorem dX0_findCircles_1 : decode cX0_findCircles 1 = .ok (.istore_n 2, 1) := by decide +kernel
theorem dX0_findCircles_2 : decode cX0_findCircles 2 = .ok (.iconst 0, 1) := by decide +kernel
theorem dX0_findCircles_3 : decode cX0_findCircles 3 = .ok (.istore_n 3, 1) := by decide +kernel
theorem dX0_findCircles_4 : decode cX0_findCircles 4 = .ok (.iload_n 3, 1) := by decide +kernel
theorem dX0_findCircles_5 : decode cX0_findCircles 5 = .ok (.bipush 25, 2) := by decide +kernel
theorem dX0_findCircles_7 : decode cX0_findCircles 7 = .ok (.if_icmp .ge 22, 3) := by decide +kernel
theorem dX0_findCircles_10 : decode cX0_findCircles 10 = .ok (.iload_n 2, 1) := by decide +kernel
theorem dX0_findCircles_11 : decode cX0_findCircles 11 = .ok (.aload_n 0, 1) := by decide +kernel
theorem dX0_findCircles_12 : decode cX0_findCircles 12 = .ok (.getfield 15, 3) := by decide +kernel
theorem dX0_findCircles_15 : decode cX0_findCircles 15 = .ok (.iload_n 3, 1) := by decide +kernel
theorem dX0_findCircles_16 : decode cX0_findCircles 16 = .ok (.iaload, 1) := by decide +kernel
theorem dX0_findCircles_17 : decode cX0_findCircles 17 = .ok (.iconst 1, 1) := by decide +kernel
theorem dX0_findCircles_18 : decode cX0_findCircles 18 = .ok (.iload_n 3, 1) := by decide +kernel
theorem dX0_findCircles_19 : decode cX0_findCircles 19 = .ok (.ishl, 1) := by decide +kernel
theorem dX0_findCircles_20 : decode cX0_findCircles 20 = .ok (.iand, 1) := by decide +kernel
theorem dX0_findCircles_21 : decode cX0_findCircles 21 = .ok (.ior, 1) := by decide +kernel
theorem dX0_findCircles_22 : decode cX0_findCircles 22 = .ok (.istore_n 2, 1) := by decide +kernel
theorem dX0_findCircles_23 : decode cX0_findCircles 23 = .ok (.iinc 3 1, 3) := by decide +kernel
theorem dX0_findCircles_26 : decode cX0_findCircles 26 = .ok (.goto (-22), 3) := by decide +kernel
theorem dX0_findCircles_29 : decode cX0_findCircles 29 = .ok (.iconst 0, 1) := by decide +kernel
theorem dX0_findCircles_30 : decode cX0_findCircles 30 = .ok (.istore_n 3, 1) := by decide +kernel
theorem dX0_findCircles_31 : decode cX0_findCircles 31 = .ok (.iconst 0, 1) := by decide +kernel
theorem dX0_findCircles_32 : decode cX0_findCircles 32 = .ok (.istore 4, 2) := by decide +kernel
theorem dX0_findCircles_34 : decode cX0_findCircles 34 = .ok (.iload 4, 2) := by decide +kernel
theorem dX0_findCircles_36 : decode cX0_findCircles 36 = .ok (.aload_n 1, 1) := by decide +kernel
theorem dX0_findCircles_37 : decode cX0_findCircles 37 = .ok (.getfield 64, 3) := by decide +kernel
theorem dX0_findCircles_40 : decode cX0_findCircles 40 = .ok (.if_icmp .ge 64, 3) := by decide +kernel
theorem dX0_findCircles_43 : decode cX0_findCircles 43 = .ok (.aload_n 1, 1) := by decide +kernel
theorem dX0_findCircles_44 : decode cX0_findCircles 44 = .ok (.getfield 88, 3) := by decide +kernel
theorem dX0_findCircles_47 : decode cX0_findCircles 47 = .ok (.iload 4, 2) := by decide +kernel
theorem dX0_findCircles_49 : decode cX0_findCircles 49 = .ok (.iaload, 1) := by decide +kernel
theorem dX0_findCircles_50 : decode cX0_findCircles 50 = .ok (.iconst (-1), 1) := by decide +kernel
theorem dX0_findCircles_51 : decode cX0_findCircles 51 = .ok (.if_icmp .eq 47, 3) := by decide +kernel
theorem dX0_findCircles_54 : decode cX0_findCircles 54 = .ok (.aload_n 1, 1) := by decide +kernel
theorem dX0_findCircles_55 : decode cX0_findCircles 55 = .ok (.getfield 73, 3) := by decide +kernel
theorem dX0_findCircles_58 : decode cX0_findCircles 58 = .ok (.iload 4, 2) := by decide +kernel
theorem dX0_findCircles_60 : decode cX0_findCircles 60 = .ok (.iaload, 1) := by decide +kernel
theorem dX0_findCircles_61 : decode cX0_findCircles 61 = .ok (.aload_n 1, 1) := by decide +kernel
theorem dX0_findCircles_62 : decode cX0_findCircles 62 = .ok (.getfield 67, 3) := by decide +kernel
theorem dX0_findCircles_65 : decode cX0_findCircles 65 = .ok (.iload 4, 2) := by decide +kernel
theorem dX0_findCircles_67 : decode cX0_findCircles 67 = .ok (.iaload, 1) := by decide +kernel
theorem dX0_findCircles_68 : decode cX0_findCircles 68 = .ok (.invokestatic 76, 3) := by decide +kernel
theorem dX0_findCircles_71 : decode cX0_findCircles 71 = .ok (.istore 5, 2) := by decide +kernel
theorem dX0_findCircles_73 : decode cX0_findCircles 73 = .ok (.iload_n 3, 1) := by decide +kernel
theorem dX0_findCircles_74 : decode cX0_findCircles 74 = .ok (.aload_n 0, 1) := by decide +kernel
theorem dX0_findCircles_75 : decode cX0_findCircles 75 = .ok (.getfield 15, 3) := by decide +kernel
theorem dX0_findCircles_78 : decode cX0_findCircles 78 = .ok (.iload 5, 2) := by decide +kernel
theorem dX0_findCircles_80 : decode cX0_findCircles 80 = .ok (.iaload, 1) := by decide +kernel
theorem dX0_findCircles_81 : decode cX0_findCircles 81 = .ok (.iconst 1, 1) := by decide +kernel
theorem dX0_findCircles_82 : decode cX0_findCircles 82 = .ok (.iload 5, 2) := by decide +kernel
theorem dX0_findCircles_84 : decode cX0_findCircles 84 = .ok (.ishl, 1) := by decide +kernel
theorem dX0_findCircles_85 : decode cX0_findCircles 85 = .ok (.ior, 1) := by decide +kernel
theorem dX0_findCircles_86 : decode cX0_findCircles 86 = .ok (.iconst 1, 1) := by decide +kernel
theorem dX0_findCircles_87 : decode cX0_findCircles 87 = .ok (.aload_n 1, 1) := by decide +kernel
theorem dX0_findCircles_88 : decode cX0_findCircles 88 = .ok (.getfield 70, 3) := by decide +kernel
theorem dX0_findCircles_91 : decode cX0_findCircles 91 = .ok (.iload 4, 2) := by decide +kernel
theorem dX0_findCircles_93 : decode cX0_findCircles 93 = .ok (.iaload, 1) := by decide +kernel
theorem dX0_findCircles_94 : decode cX0_findCircles 94 = .ok (.ishl, 1) := by decide +kernel
theorem dX0_findCircles_95 : decode cX0_findCircles 95 = .ok (.iand, 1) := by decide +kernel
theorem dX0_findCircles_96 : decode cX0_findCircles 96 = .ok (.ior, 1) := by decide +kernel
theorem dX0_findCircles_97 : decode cX0_findCircles 97 = .ok (.istore_n 3, 1) := by decide +kernel
theorem dX0_findCircles_98 : decode cX0_findCircles 98 = .ok (.iinc 4 1, 3) := by decide +kernel
theorem dX0_findCircles_101 : decode cX0_findCircles 101 = .ok (.goto (-67), 3) := by decide +kernel
theorem dX0_findCircles_104 : decode cX0_findCircles 104 = .ok (.aload_n 0, 1) := by decide +kernel
theorem dX0_findCircles_105 : decode cX0_findCircles 105 = .ok (.aload_n 0, 1) := by decide +kernel
theorem dX0_findCircles_106 : decode cX0_findCircles 106 = .ok (.iload_n 2, 1) := by decide +kernel
theorem dX0_findCircles_107 : decode cX0_findCircles 107 = .ok (.invokevirtual 91, 3) := by decide +kernel
theorem dX0_findCircles_110 : decode cX0_findCircles 110 = .ok (.putfield 21, 3) := by decide +kernel
theorem dX0_findCircles_113 : decode cX0_findCircles 113 = .ok (.aload_n 0, 1) := by decide +kernel
theorem dX0_findCircles_114 : decode cX0_findCircles 114 = .ok (.aload_n 0, 1) := by decide +kernel
theorem dX0_findCircles_115 : decode cX0_findCircles 115 = .ok (.iload_n 3, 1) := by decide +kernel
theorem dX0_findCircles_116 : decode cX0_findCircles 116 = .ok (.invokevirtual 91, 3) := by decide +kernel
theorem dX0_findCircles_119 : decode cX0_findCircles 119 = .ok (.putfield 25, 3) := by decide +kernel
theorem dX0_findCircles_122 : decode cX0_findCircles 122 = .ok (.return_, 1) := by decide +kernel
theorem dX0_leadingTo_0 : decode cX0_leadingTo 0 = .ok (.iconst 0, 1) := by decide +kernel
theorem dX0_leadingTo_1 : decode cX0_leadingTo 1 = .ok (.istore_n 2, 1) := by decide +kernel
theorem dX0_leadingTo_2 : decode cX0_leadingTo 2 = .ok (.iconst 0, 1) := by decide +kernel
theorem dX0_leadingTo_3 : decode cX0_leadingTo 3 = .ok (.istore_n 3, 1) := by decide +kernel
theorem dX0_leadingTo_4 : decode cX0_leadingTo 4 = .ok (.iload_n 3, 1) := by decide +kernel
theorem dX0_leadingTo_5 : decode cX0_leadingTo 5 = .ok (.bipush 25, 2) := by decide +kernel
theorem dX0_leadingTo_7 : decode cX0_leadingTo 7 = .ok (.if_icmp .ge 30, 3) := by decide +kernel
theorem dX0_leadingTo_10 : decode cX0_leadingTo 10 = .ok (.aload_n 0, 1) := by decide +kernel
theorem dX0_leadingTo_11 : decode cX0_leadingTo 11 = .ok (.getfield 15, 3) := by decide +kernel
theorem dX0_leadingTo_14 : decode cX0_leadingTo 14 = .ok (.iload_n 3, 1) := by decide +kernel
theorem dX0_leadingTo_15 : decode cX0_leadingTo 15 = .ok (.iaload, 1) := by decide +kernel
theorem dX0_leadingTo_16 : decode cX0_leadingTo 16 = .ok (.iconst 1, 1) := by decide +kernel
theorem dX0_leadingTo_17 : decode cX0_leadingTo 17 = .ok (.iload_n 3, 1) := by decide +kernel
theorem dX0_leadingTo_18 : decode cX0_leadingTo 18 = .ok (.ishl, 1) := by decide +kernel
theorem dX0_leadingTo_19 : decode cX0_leadingTo 19 = .ok (.ior, 1) := by decide +kernel
theorem dX0_leadingTo_20 : decode cX0_leadingTo 20 = .ok (.iload_n 1, 1) := by decide +kernel
theorem dX0_leadingTo_21 : decode cX0_leadingTo 21 = .ok (.iand, 1) := by decide +kernel
theorem dX0_leadingTo_22 : decode cX0_leadingTo 22 = .ok (.ifCond .eq 9, 3) := by decide +kernel
theorem dX0_leadingTo_25 : decode cX0_leadingTo 25 = .ok (.iload_n 2, 1) := by decide +kernel
theorem dX0_leadingTo_26 : decode cX0_leadingTo 26 = .ok (.iconst 1, 1) := by decide +kernel
theorem dX0_leadingTo_27 : decode cX0_leadingTo 27 = .ok (.iload_n 3, 1) := by decide +kernel
theorem dX0_leadingTo_28 : decode cX0_leadingTo 28 = .ok (.ishl, 1) := by decide +kernel
theorem dX0_leadingTo_29 : decode cX0_leadingTo 29 = .ok (.ior, 1) := by decide +kernel
theorem dX0_leadingTo_30 : decode cX0_leadingTo 30 = .ok (.istore_n 2, 1) := by decide +kernel
theorem dX0_leadingTo_31 : decode cX0_leadingTo 31 = .ok (.iinc 3 1, 3) := by decide +kernel
theorem dX0_leadingTo_34 : decode cX0_leadingTo 34 = .ok (.goto (-30), 3) := by decide +kernel
theorem dX0_leadingTo_37 : decode cX0_leadingTo 37 = .ok (.iload_n 2, 1) := by decide +kernel
theorem dX0_leadingTo_38 : decode cX0_leadingTo 38 = .ok (.ireturn, 1) := by decide +kernel
theorem dX0_findTallest_0 : decode cX0_findTallest 0 = .ok (.aload_n 0, 1) := by decide +kernel
theorem dX0_findTallest_1 : decode cX0_findTallest 1 = .ok (.getfield 18, 3) := by decide +kernel
theorem dX0_findTallest_4 : decode cX0_findTallest 4 = .ok (.iconst 1, 1) := by decide +kernel
theorem dX0_findTallest_5 : decode cX0_findTallest 5 = .ok (.invokestatic 58, 3) := by decide +kernel
theorem dX0_findTallest_8 : decode cX0_findTallest 8 = .ok (.iconst 1, 1) := by decide +kernel
theorem dX0_findTallest_9 : decode cX0_findTallest 9 = .ok (.istore_n 2, 1) := by decide +kernel
theorem dX0_findTallest_10 : decode cX0_findTallest 10 = .ok (.iconst 0, 1) := by decide +kernel
theorem dX0_findTallest_11 : decode cX0_findTallest 11 = .ok (.istore_n 3, 1) := by decide +kernel
theorem dX0_findTallest_12 : decode cX0_findTallest 12 = .ok (.iload_n 2, 1) := by decide +kernel
theorem dX0_findTallest_13 : decode cX0_findTallest 13 = .ok (.ifCond .eq 84, 3) := by decide +kernel
theorem dX0_findTallest_16 : decode cX0_findTallest 16 = .ok (.iload_n 3, 1) := by decide +kernel
theorem dX0_findTallest_17 : decode cX0_findTallest 17 = .ok (.bipush 25, 2) := by decide +kernel
theorem dX0_findTallest_19 : decode cX0_findTallest 19 = .ok (.if_icmp .gt 78, 3) := by decide +kernel
theorem dX0_findTallest_22 : decode cX0_findTallest 22 = .ok (.iconst 0, 1) := by decide +kernel
theorem dX0_findTallest_23 : decode cX0_findTallest 23 = .ok (.istore_n 2, 1) := by decide +kernel
theorem dX0_findTallest_24 : decode cX0_findTallest 24 = .ok (.iconst 0, 1) := by decide +kernel
theorem dX0_findTallest_25 : decode cX0_findTallest 25 = .ok (.istore 4, 2) := by decide +kernel
theorem dX0_findTallest_27 : decode cX0_findTallest 27 = .ok (.iload 4, 2) := by decide +kernel
theorem dX0_findTallest_29 : decode cX0_findTallest 29 = .ok (.aload_n 1, 1) := by decide +kernel
theorem dX0_findTallest_30 : decode cX0_findTallest 30 = .ok (.getfield 64, 3) := by decide +kernel
theorem dX0_findTallest_33 : decode cX0_findTallest 33 = .ok (.if_icmp .ge 58, 3) := by decide +kernel
theorem dX0_findTallest_36 : decode cX0_findTallest 36 = .ok (.aload_n 0, 1) := by decide +kernel
theorem dX0_findTallest_37 : decode cX0_findTallest 37 = .ok (.getfield 25, 3) := by decide +kernel
theorem dX0_findTallest_40 : decode cX0_findTallest 40 = .ok (.aload_n 1, 1) := by decide +kernel
theorem dX0_findTallest_41 : decode cX0_findTallest 41 = .ok (.getfield 70, 3) := by decide +kernel
theorem dX0_findTallest_44 : decode cX0_findTallest 44 = .ok (.iload 4, 2) := by decide +kernel
theorem dX0_findTallest_46 : decode cX0_findTallest 46 = .ok (.iaload, 1) := by decide +kernel
theorem dX0_findTallest_47 : decode cX0_findTallest 47 = .ok (.invokestatic 84, 3) := by decide +kernel
theorem dX0_findTallest_50 : decode cX0_findTallest 50 = .ok (.ifCond .ne 7, 3) := by decide +kernel
theorem dX0_findTallest_53 : decode cX0_findTallest 53 = .ok (.iconst 1, 1) := by decide +kernel
theorem dX0_findTallest_54 : decode cX0_findTallest 54 = .ok (.goto 4, 3) := by decide +kernel
theorem dX0_findTallest_57 : decode cX0_findTallest 57 = .ok (.iconst 0, 1) := by decide +kernel
theorem dX0_findTallest_58 : decode cX0_findTallest 58 = .ok (.istore 5, 2) := by decide +kernel
theorem dX0_findTallest_60 : decode cX0_findTallest 60 = .ok (.iload 5, 2) := by decide +kernel
theorem dX0_findTallest_62 : decode cX0_findTallest 62 = .ok (.ifCond .eq 13, 3) := by decide +kernel
theorem dX0_findTallest_65 : decode cX0_findTallest 65 = .ok (.aload_n 0, 1) := by decide +kernel
theorem dX0_findTallest_66 : decode cX0_findTallest 66 = .ok (.aload_n 1, 1) := by decide +kernel
theorem dX0_findTallest_67 : decode cX0_findTallest 67 = .ok (.iload 4, 2) := by decide +kernel
theorem dX0_findTallest_69 : decode cX0_findTallest 69 = .ok (.invokevirtual 95, 3) := by decide +kernel
theorem dX0_findTallest_72 : decode cX0_findTallest 72 = .ok (.ifCond .ne 7, 3) := by decide +kernel
theorem dX0_findTallest_75 : decode cX0_findTallest 75 = .ok (.iload_n 2, 1) := by decide +kernel
theorem dX0_findTallest_76 : decode cX0_findTallest 76 = .ok (.ifCond .eq 7, 3) := by decide +kernel
theorem dX0_findTallest_79 : decode cX0_findTallest 79 = .ok (.iconst 1, 1) := by decide +kernel
theorem dX0_findTallest_80 : decode cX0_findTallest 80 = .ok (.goto 4, 3) := by decide +kernel
theorem dX0_findTallest_83 : decode cX0_findTallest 83 = .ok (.iconst 0, 1) := by decide +kernel
theorem dX0_findTallest_84 : decode cX0_findTallest 84 = .ok (.istore_n 2, 1) := by decide +kernel
theorem dX0_findTallest_85 : decode cX0_findTallest 85 = .ok (.iinc 4 1, 3) := by decide +kernel
theorem dX0_findTallest_88 : decode cX0_findTallest 88 = .ok (.goto (-61), 3) := by decide +kernel
theorem dX0_findTallest_91 : decode cX0_findTallest 91 = .ok (.iinc 3 1, 3) := by decide +kernel
theorem dX0_findTallest_94 : decode cX0_findTallest 94 = .ok (.goto (-82), 3) := by decide +kernel
theorem dX0_findTallest_97 : decode cX0_findTallest 97 = .ok (.return_, 1) := by decide +kernel
theorem dX0_raiseBy_0 : decode cX0_raiseBy 0 = .ok (.aload_n 1, 1) := by decide +kernel
theorem dX0_raiseBy_1 : decode cX0_raiseBy 1 = .ok (.getfield 67, 3) := by decide +kernel
theorem dX0_raiseBy_4 : decode cX0_raiseBy 4 = .ok (.iload_n 2, 1) := by decide +kernel
theorem dX0_raiseBy_5 : decode cX0_raiseBy 5 = .ok (.iaload, 1) := by decide +kernel
theorem dX0_raiseBy_6 : decode cX0_raiseBy 6 = .ok (.iconst (-1), 1) := by decide +kernel
theorem dX0_raiseBy_7 : decode cX0_raiseBy 7 = .ok (.if_icmp .ne 5, 3) := by decide +kernel
theorem dX0_raiseBy_10 : decode cX0_raiseBy 10 = .ok (.iconst 0, 1) := by decide +kernel
theorem dX0_raiseBy_11 : decode cX0_raiseBy 11 = .ok (.ireturn, 1) := by decide +kernel
theorem dX0_raiseBy_12 : decode cX0_raiseBy 12 = .ok (.aload_n 1, 1) := by decide +kernel
theorem dX0_raiseBy_13 : decode cX0_raiseBy 13 = .ok (.getfield 88, 3) := by decide +kernel
theorem dX0_raiseBy_16 : decode cX0_raiseBy 16 = .ok (.iload_n 2, 1) := by decide +kernel
theorem dX0_raiseBy_17 : decode cX0_raiseBy 17 = .ok (.iaload, 1) := by decide +kernel
theorem dX0_raiseBy_18 : decode cX0_raiseBy 18 = .ok (.iconst (-1), 1) := by decide +kernel
theorem dX0_raiseBy_19 : decode cX0_raiseBy 19 = .ok (.if_icmp .ne 7, 3) := by decide +kernel
theorem dX0_raiseBy_22 : decode cX0_raiseBy 22 = .ok (.iconst 0, 1) := by decide +kernel
theorem dX0_raiseBy_23 : decode cX0_raiseBy 23 = .ok (.goto 4, 3) := by decide +kernel
theorem dX0_raiseBy_26 : decode cX0_raiseBy 26 = .ok (.iconst 1, 1) := by decide +kernel
theorem dX0_raiseBy_27 : decode cX0_raiseBy 27 = .ok (.istore_n 3, 1) := by decide +kernel
theorem dX0_raiseBy_28 : decode cX0_raiseBy 28 = .ok (.aload_n 0, 1) := by decide +kernel
theorem dX0_raiseBy_29 : decode cX0_raiseBy 29 = .ok (.getfield 18, 3) := by decide +kernel
theorem dX0_raiseBy_32 : decode cX0_raiseBy 32 = .ok (.aload_n 1, 1) := by decide +kernel
theorem dX0_raiseBy_33 : decode cX0_raiseBy 33 = .ok (.getfield 73, 3) := by decide +kernel
theorem dX0_raiseBy_36 : decode cX0_raiseBy 36 = .ok (.iload_n 2, 1) := by decide +kernel
theorem dX0_raiseBy_37 : decode cX0_raiseBy 37 = .ok (.iaload, 1) := by decide +kernel
theorem dX0_raiseBy_38 : decode cX0_raiseBy 38 = .ok (.aload_n 1, 1) := by decide +kernel
theorem dX0_raiseBy_39 : decode cX0_raiseBy 39 = .ok (.getfield 67, 3) := by decide +kernel
theorem dX0_raiseBy_42 : decode cX0_raiseBy 42 = .ok (.iload_n 2, 1) := by decide +kernel
theorem dX0_raiseBy_43 : decode cX0_raiseBy 43 = .ok (.iaload, 1) := by decide +kernel
theorem dX0_raiseBy_44 : decode cX0_raiseBy 44 = .ok (.invokestatic 76, 3) := by decide +kernel
theorem dX0_raiseBy_47 : decode cX0_raiseBy 47 = .ok (.iaload, 1) := by decide +kernel
theorem dX0_raiseBy_48 : decode cX0_raiseBy 48 = .ok (.iload_n 3, 1) := by decide +kernel
theorem dX0_raiseBy_49 : decode cX0_raiseBy 49 = .ok (.iadd, 1) := by decide +kernel
theorem dX0_raiseBy_50 : decode cX0_raiseBy 50 = .ok (.istore 4, 2) := by decide +kernel
theorem dX0_raiseBy_52 : decode cX0_raiseBy 52 = .ok (.aload_n 0, 1) := by decide +kernel
theorem dX0_raiseBy_53 : decode cX0_raiseBy 53 = .ok (.aload_n 1, 1) := by decide +kernel
theorem dX0_raiseBy_54 : decode cX0_raiseBy 54 = .ok (.iload_n 2, 1) := by decide +kernel
theorem dX0_raiseBy_55 : decode cX0_raiseBy 55 = .ok (.invokevirtual 80, 3) := by decide +kernel
theorem dX0_raiseBy_58 : decode cX0_raiseBy 58 = .ok (.istore 5, 2) := by decide +kernel
theorem dX0_raiseBy_60 : decode cX0_raiseBy 60 = .ok (.iconst 0, 1) := by decide +kernel
theorem dX0_raiseBy_61 : decode cX0_raiseBy 61 = .ok (.istore 6, 2) := by decide +kernel
theorem dX0_raiseBy_63 : decode cX0_raiseBy 63 = .ok (.iload 6, 2) := by decide +kernel
theorem dX0_raiseBy_65 : decode cX0_raiseBy 65 = .ok (.bipush 25, 2) := by decide +kernel
theorem dX0_raiseBy_67 : decode cX0_raiseBy 67 = .ok (.if_icmp .ge 33, 3) := by decide +kernel
theorem dX0_raiseBy_70 : decode cX0_raiseBy 70 = .ok (.iload 5, 2) := by decide +kernel
theorem dX0_raiseBy_72 : decode cX0_raiseBy 72 = .ok (.iload 6, 2) := by decide +kernel
theorem dX0_raiseBy_74 : decode cX0_raiseBy 74 = .ok (.invokestatic 84, 3) := by decide +kernel
theorem dX0_raiseBy_77 : decode cX0_raiseBy 77 = .ok (.ifCond .eq 17, 3) := by decide +kernel
theorem dX0_raiseBy_80 : decode cX0_raiseBy 80 = .ok (.iload 4, 2) := by decide +kernel
theorem dX0_raiseBy_82 : decode cX0_raiseBy 82 = .ok (.aload_n 0, 1) := by decide +kernel
theorem dX0_raiseBy_83 : decode cX0_raiseBy 83 = .ok (.getfield 18, 3) := by decide +kernel
theorem dX0_raiseBy_86 : decode cX0_raiseBy 86 = .ok (.iload 6, 2) := by decide +kernel
theorem dX0_raiseBy_88 : decode cX0_raiseBy 88 = .ok (.iaload, 1) := by decide +kernel
theorem dX0_raiseBy_89 : decode cX0_raiseBy 89 = .ok (.invokestatic 99, 3) := by decide +kernel
theorem dX0_raiseBy_92 : decode cX0_raiseBy 92 = .ok (.istore 4, 2) := by decide +kernel
theorem dX0_raiseBy_94 : decode cX0_raiseBy 94 = .ok (.iinc 6 1, 3) := by decide +kernel
theorem dX0_raiseBy_97 : decode cX0_raiseBy 97 = .ok (.goto (-34), 3) := by decide +kernel
theorem dX0_raiseBy_100 : decode cX0_raiseBy 100 = .ok (.iload 4, 2) := by decide +kernel
theorem dX0_raiseBy_102 : decode cX0_raiseBy 102 = .ok (.aload_n 0, 1) := by decide +kernel
theorem dX0_raiseBy_103 : decode cX0_raiseBy 103 = .ok (.getfield 18, 3) := by decide +kernel
theorem dX0_raiseBy_106 : decode cX0_raiseBy 106 = .ok (.aload_n 1, 1) := by decide +kernel
theorem dX0_raiseBy_107 : decode cX0_raiseBy 107 = .ok (.getfield 70, 3) := by decide +kernel
theorem dX0_raiseBy_110 : decode cX0_raiseBy 110 = .ok (.iload_n 2, 1) := by decide +kernel
theorem dX0_raiseBy_111 : decode cX0_raiseBy 111 = .ok (.iaload, 1) := by decide +kernel
theorem dX0_raiseBy_112 : decode cX0_raiseBy 112 = .ok (.iaload, 1) := by decide +kernel
theorem dX0_raiseBy_113 : decode cX0_raiseBy 113 = .ok (.if_icmp .gt 5, 3) := by decide +kernel
theorem dX0_raiseBy_116 : decode cX0_raiseBy 116 = .ok (.iconst 0, 1) := by decide +kernel
theorem dX0_raiseBy_117 : decode cX0_raiseBy 117 = .ok (.ireturn, 1) := by decide +kernel
theorem dX0_raiseBy_118 : decode cX0_raiseBy 118 = .ok (.aload_n 0, 1) := by decide +kernel
theorem dX0_raiseBy_119 : decode cX0_raiseBy 119 = .ok (.getfield 18, 3) := by decide +kernel
theorem dX0_raiseBy_122 : decode cX0_raiseBy 122 = .ok (.aload_n 1, 1) := by decide +kernel
theorem dX0_raiseBy_123 : decode cX0_raiseBy 123 = .ok (.getfield 70, 3) := by decide +kernel
theorem dX0_raiseBy_126 : decode cX0_raiseBy 126 = .ok (.iload_n 2, 1) := by decide +kernel
theorem dX0_raiseBy_127 : decode cX0_raiseBy 127 = .ok (.iaload, 1) := by decide +kernel
theorem dX0_raiseBy_128 : decode cX0_raiseBy 128 = .ok (.iload 4, 2) := by decide +kernel
theorem dX0_raiseBy_130 : decode cX0_raiseBy 130 = .ok (.iastore, 1) := by decide +kernel
theorem dX0_raiseBy_131 : decode cX0_raiseBy 131 = .ok (.iconst 1, 1) := by decide +kernel
theorem dX0_raiseBy_132 : decode cX0_raiseBy 132 = .ok (.ireturn, 1) := by decide +kernel
theorem dX0_goOnFrom_0 : decode cX0_goOnFrom 0 = .ok (.iconst 1, 1) := by decide +kernel
theorem dX0_goOnFrom_1 : decode cX0_goOnFrom 1 = .ok (.aload_n 1, 1) := by decide +kernel
theorem dX0_goOnFrom_2 : decode cX0_goOnFrom 2 = .ok (.getfield 104, 3) := by decide +kernel
theorem dX0_goOnFrom_5 : decode cX0_goOnFrom 5 = .ok (.ishl, 1) := by decide +kernel
theorem dX0_goOnFrom_6 : decode cX0_goOnFrom 6 = .ok (.istore_n 2, 1) := by decide +kernel
theorem dX0_goOnFrom_7 : decode cX0_goOnFrom 7 = .ok (.aload_n 1, 1) := by decide +kernel
theorem dX0_goOnFrom_8 : decode cX0_goOnFrom 8 = .ok (.getfield 109, 3) := by decide +kernel
theorem dX0_goOnFrom_11 : decode cX0_goOnFrom 11 = .ok (.iconst 1, 1) := by decide +kernel
theorem dX0_goOnFrom_12 : decode cX0_goOnFrom 12 = .ok (.isub, 1) := by decide +kernel
theorem dX0_goOnFrom_13 : decode cX0_goOnFrom 13 = .ok (.istore_n 3, 1) := by decide +kernel
theorem dX0_goOnFrom_14 : decode cX0_goOnFrom 14 = .ok (.iload_n 3, 1) := by decide +kernel
theorem dX0_goOnFrom_15 : decode cX0_goOnFrom 15 = .ok (.ifCond .lt 42, 3) := by decide +kernel
theorem dX0_goOnFrom_18 : decode cX0_goOnFrom 18 = .ok (.aload_n 0, 1) := by decide +kernel
theorem dX0_goOnFrom_19 : decode cX0_goOnFrom 19 = .ok (.iload_n 2, 1) := by decide +kernel
theorem dX0_goOnFrom_20 : decode cX0_goOnFrom 20 = .ok (.aload_n 1, 1) := by decide +kernel
theorem dX0_goOnFrom_21 : decode cX0_goOnFrom 21 = .ok (.getfield 112, 3) := by decide +kernel
theorem dX0_goOnFrom_24 : decode cX0_goOnFrom 24 = .ok (.iload_n 3, 1) := by decide +kernel
theorem dX0_goOnFrom_25 : decode cX0_goOnFrom 25 = .ok (.iaload, 1) := by decide +kernel
theorem dX0_goOnFrom_26 : decode cX0_goOnFrom 26 = .ok (.invokevirtual 115, 3) := by decide +kernel
theorem dX0_goOnFrom_29 : decode cX0_goOnFrom 29 = .ok (.aload_n 0, 1) := by decide +kernel
theorem dX0_goOnFrom_30 : decode cX0_goOnFrom 30 = .ok (.getfield 21, 3) := by decide +kernel
theorem dX0_goOnFrom_33 : decode cX0_goOnFrom 33 = .ok (.iand, 1) := by decide +kernel
theorem dX0_goOnFrom_34 : decode cX0_goOnFrom 34 = .ok (.ifCond .eq 5, 3) := by decide +kernel
theorem dX0_goOnFrom_37 : decode cX0_goOnFrom 37 = .ok (.iconst 1, 1) := by decide +kernel
theorem dX0_goOnFrom_38 : decode cX0_goOnFrom 38 = .ok (.ireturn, 1) := by decide +kernel
theorem dX0_goOnFrom_39 : decode cX0_goOnFrom 39 = .ok (.aload_n 0, 1) := by decide +kernel
theorem dX0_goOnFrom_40 : decode cX0_goOnFrom 40 = .ok (.iload_n 2, 1) := by decide +kernel
theorem dX0_goOnFrom_41 : decode cX0_goOnFrom 41 = .ok (.aload_n 1, 1) := by decide +kernel
theorem dX0_goOnFrom_42 : decode cX0_goOnFrom 42 = .ok (.getfield 112, 3) := by decide +kernel
theorem dX0_goOnFrom_45 : decode cX0_goOnFrom 45 = .ok (.iload_n 3, 1) := by decide +kernel
theorem dX0_goOnFrom_46 : decode cX0_goOnFrom 46 = .ok (.iaload, 1) := by decide +kernel
theorem dX0_goOnFrom_47 : decode cX0_goOnFrom 47 = .ok (.invokevirtual 118, 3) := by decide +kernel
theorem dX0_goOnFrom_50 : decode cX0_goOnFrom 50 = .ok (.istore_n 2, 1) := by decide +kernel
theorem dX0_goOnFrom_51 : decode cX0_goOnFrom 51 = .ok (.iinc 3 (-1), 3) := by decide +kernel
theorem dX0_goOnFrom_54 : decode cX0_goOnFrom 54 = .ok (.goto (-40), 3) := by decide +kernel
theorem dX0_goOnFrom_57 : decode cX0_goOnFrom 57 = .ok (.iconst 0, 1) := by decide +kernel
theorem dX0_goOnFrom_58 : decode cX0_goOnFrom 58 = .ok (.ireturn, 1) := by decide +kernel
theorem dX0_topFrom_0 : decode cX0_topFrom 0 = .ok (.aload_n 1, 1) := by decide +kernel
theorem dX0_topFrom_1 : decode cX0_topFrom 1 = .ok (.getfield 109, 3) := by decide +kernel
theorem dX0_topFrom_4 : decode cX0_topFrom 4 = .ok (.istore_n 2, 1) := by decide +kernel
theorem dX0_topFrom_5 : decode cX0_topFrom 5 = .ok (.iconst 1, 1) := by decide +kernel
theorem dX0_topFrom_6 : decode cX0_topFrom 6 = .ok (.aload_n 1, 1) := by decide +kernel
theorem dX0_topFrom_7 : decode cX0_topFrom 7 = .ok (.getfield 104, 3) := by decide +kernel
theorem dX0_topFrom_10 : decode cX0_topFrom 10 = .ok (.ishl, 1) := by decide +kernel
theorem dX0_topFrom_11 : decode cX0_topFrom 11 = .ok (.istore_n 3, 1) := by decide +kernel
theorem dX0_topFrom_12 : decode cX0_topFrom 12 = .ok (.aload_n 1, 1) := by decide +kernel
theorem dX0_topFrom_13 : decode cX0_topFrom 13 = .ok (.getfield 109, 3) := by decide +kernel
theorem dX0_topFrom_16 : decode cX0_topFrom 16 = .ok (.iconst 1, 1) := by decide +kernel
theorem dX0_topFrom_17 : decode cX0_topFrom 17 = .ok (.isub, 1) := by decide +kernel
theorem dX0_topFrom_18 : decode cX0_topFrom 18 = .ok (.istore 4, 2) := by decide +kernel
theorem dX0_topFrom_20 : decode cX0_topFrom 20 = .ok (.iload 4, 2) := by decide +kernel
theorem dX0_topFrom_22 : decode cX0_topFrom 22 = .ok (.ifCond .lt 89, 3) := by decide +kernel
theorem dX0_topFrom_25 : decode cX0_topFrom 25 = .ok (.aload_n 0, 1) := by decide +kernel
theorem dX0_topFrom_26 : decode cX0_topFrom 26 = .ok (.iload_n 3, 1) := by decide +kernel
theorem dX0_topFrom_27 : decode cX0_topFrom 27 = .ok (.aload_n 1, 1) := by decide +kernel
theorem dX0_topFrom_28 : decode cX0_topFrom 28 = .ok (.getfield 112, 3) := by decide +kernel
theorem dX0_topFrom_31 : decode cX0_topFrom 31 = .ok (.iload 4, 2) := by decide +kernel
theorem dX0_topFrom_33 : decode cX0_topFrom 33 = .ok (.iaload, 1) := by decide +kernel
theorem dX0_topFrom_34 : decode cX0_topFrom 34 = .ok (.invokevirtual 115, 3) := by decide +kernel
theorem dX0_topFrom_37 : decode cX0_topFrom 37 = .ok (.istore 5, 2) := by decide +kernel
theorem dX0_topFrom_39 : decode cX0_topFrom 39 = .ok (.iload 5, 2) := by decide +kernel
theorem dX0_topFrom_41 : decode cX0_topFrom 41 = .ok (.aload_n 0, 1) := by decide +kernel
theorem dX0_topFrom_42 : decode cX0_topFrom 42 = .ok (.getfield 25, 3) := by decide +kernel
theorem dX0_topFrom_45 : decode cX0_topFrom 45 = .ok (.iand, 1) := by decide +kernel
theorem dX0_topFrom_46 : decode cX0_topFrom 46 = .ok (.ifCond .eq 5, 3) := by decide +kernel
theorem dX0_topFrom_49 : decode cX0_topFrom 49 = .ok (.iconst (-1), 1) := by decide +kernel
theorem dX0_topFrom_50 : decode cX0_topFrom 50 = .ok (.ireturn, 1) := by decide +kernel
theorem dX0_topFrom_51 : decode cX0_topFrom 51 = .ok (.iconst 0, 1) := by decide +kernel
theorem dX0_topFrom_52 : decode cX0_topFrom 52 = .ok (.istore 6, 2) := by decide +kernel
theorem dX0_topFrom_54 : decode cX0_topFrom 54 = .ok (.iload 6, 2) := by decide +kernel
theorem dX0_topFrom_56 : decode cX0_topFrom 56 = .ok (.bipush 25, 2) := by decide +kernel
theorem dX0_topFrom_58 : decode cX0_topFrom 58 = .ok (.if_icmp .ge 34, 3) := by decide +kernel
theorem dX0_topFrom_61 : decode cX0_topFrom 61 = .ok (.iload 5, 2) := by decide +kernel
theorem dX0_topFrom_63 : decode cX0_topFrom 63 = .ok (.iload 6, 2) := by decide +kernel
theorem dX0_topFrom_65 : decode cX0_topFrom 65 = .ok (.invokestatic 84, 3) := by decide +kernel
theorem dX0_topFrom_68 : decode cX0_topFrom 68 = .ok (.ifCond .eq 18, 3) := by decide +kernel
theorem dX0_topFrom_71 : decode cX0_topFrom 71 = .ok (.iload_n 2, 1) := by decide +kernel
theorem dX0_topFrom_72 : decode cX0_topFrom 72 = .ok (.iload 4, 2) := by decide +kernel
theorem dX0_topFrom_74 : decode cX0_topFrom 74 = .ok (.aload_n 0, 1) := by decide +kernel
theorem dX0_topFrom_75 : decode cX0_topFrom 75 = .ok (.getfield 18, 3) := by decide +kernel
theorem dX0_topFrom_78 : decode cX0_topFrom 78 = .ok (.iload 6, 2) := by decide +kernel
theorem dX0_topFrom_80 : decode cX0_topFrom 80 = .ok (.iaload, 1) := by decide +kernel
theorem dX0_topFrom_81 : decode cX0_topFrom 81 = .ok (.iadd, 1) := by decide +kernel
theorem dX0_topFrom_82 : decode cX0_topFrom 82 = .ok (.invokestatic 99, 3) := by decide +kernel
theorem dX0_topFrom_85 : decode cX0_topFrom 85 = .ok (.istore_n 2, 1) := by decide +kernel
theorem dX0_topFrom_86 : decode cX0_topFrom 86 = .ok (.iinc 6 1, 3) := by decide +kernel
theorem dX0_topFrom_89 : decode cX0_topFrom 89 = .ok (.goto (-35), 3) := by decide +kernel
theorem dX0_topFrom_92 : decode cX0_topFrom 92 = .ok (.aload_n 0, 1) := by decide +kernel
theorem dX0_topFrom_93 : decode cX0_topFrom 93 = .ok (.iload_n 3, 1) := by decide +kernel
theorem dX0_topFrom_94 : decode cX0_topFrom 94 = .ok (.aload_n 1, 1) := by decide +kernel
theorem dX0_topFrom_95 : decode cX0_topFrom 95 = .ok (.getfield 112, 3) := by decide +kernel
theorem dX0_topFrom_98 : decode cX0_topFrom 98 = .ok (.iload 4, 2) := by decide +kernel
theorem dX0_topFrom_100 : decode cX0_topFrom 100 = .ok (.iaload, 1) := by decide +kernel
theorem dX0_topFrom_101 : decode cX0_topFrom 101 = .ok (.invokevirtual 118, 3) := by decide +kernel
theorem dX0_topFrom_104 : decode cX0_topFrom 104 = .ok (.istore_n 3, 1) := by decide +kernel
theorem dX0_topFrom_105 : decode cX0_topFrom 105 = .ok (.iinc 4 (-1), 3) := by decide +kernel
theorem dX0_topFrom_108 : decode cX0_topFrom 108 = .ok (.goto (-88), 3) := by decide +kernel
theorem dX0_topFrom_111 : decode cX0_topFrom 111 = .ok (.iload_n 2, 1) := by decide +kernel
theorem dX0_topFrom_112 : decode cX0_topFrom 112 = .ok (.ireturn, 1) := by decide +kernel
theorem dX0_headsOf_0 : decode cX0_headsOf 0 = .ok (.iconst 0, 1) := by decide +kernel
theorem dX0_headsOf_1 : decode cX0_headsOf 1 = .ok (.istore_n 3, 1) := by decide +kernel
theorem dX0_headsOf_2 : decode cX0_headsOf 2 = .ok (.iconst 0, 1) := by decide +kernel
theorem dX0_headsOf_3 : decode cX0_headsOf 3 = .ok (.istore 4, 2) := by decide +kernel
theorem dX0_headsOf_5 : decode cX0_headsOf 5 = .ok (.iload 4, 2) := by decide +kernel
theorem dX0_headsOf_7 : decode cX0_headsOf 7 = .ok (.iconst 5, 1) := by decide +kernel
theorem dX0_headsOf_8 : decode cX0_headsOf 8 = .ok (.if_icmp .ge 29, 3) := by decide +kernel
theorem dX0_headsOf_11 : decode cX0_headsOf 11 = .ok (.iload_n 1, 1) := by decide +kernel
theorem dX0_headsOf_12 : decode cX0_headsOf 12 = .ok (.iload 4, 2) := by decide +kernel
theorem dX0_headsOf_14 : decode cX0_headsOf 14 = .ok (.invokestatic 84, 3) := by decide +kernel
theorem dX0_headsOf_17 : decode cX0_headsOf 17 = .ok (.ifCond .eq 14, 3) := by decide +kernel
theorem dX0_headsOf_20 : decode cX0_headsOf 20 = .ok (.iload_n 3, 1) := by decide +kernel
theorem dX0_headsOf_21 : decode cX0_headsOf 21 = .ok (.iconst 1, 1) := by decide +kernel
theorem dX0_headsOf_22 : decode cX0_headsOf 22 = .ok (.iload 4, 2) := by decide +kernel
theorem dX0_headsOf_24 : decode cX0_headsOf 24 = .ok (.iload_n 2, 1) := by decide +kernel
theorem dX0_headsOf_25 : decode cX0_headsOf 25 = .ok (.invokestatic 76, 3) := by decide +kernel
theorem dX0_headsOf_28 : decode cX0_headsOf 28 = .ok (.ishl, 1) := by decide +kernel
theorem dX0_headsOf_29 : decode cX0_headsOf 29 = .ok (.ior, 1) := by decide +kernel
theorem dX0_headsOf_30 : decode cX0_headsOf 30 = .ok (.istore_n 3, 1) := by decide +kernel
theorem dX0_headsOf_31 : decode cX0_headsOf 31 = .ok (.iinc 4 1, 3) := by decide +kernel
theorem dX0_headsOf_34 : decode cX0_headsOf 34 = .ok (.goto (-29), 3) := by decide +kernel
theorem dX0_headsOf_37 : decode cX0_headsOf 37 = .ok (.iload_n 3, 1) := by decide +kernel
theorem dX0_headsOf_38 : decode cX0_headsOf 38 = .ok (.ireturn, 1) := by decide +kernel
theorem dX0_allExits_0 : decode cX0_allExits 0 = .ok (.iconst 0, 1) := by decide +kernel
theorem dX0_allExits_1 : decode cX0_allExits 1 = .ok (.istore_n 3, 1) := by decide +kernel
theorem dX0_allExits_2 : decode cX0_allExits 2 = .ok (.iconst 0, 1) := by decide +kernel
theorem dX0_allExits_3 : decode cX0_allExits 3 = .ok (.istore 4, 2) := by decide +kernel
theorem dX0_allExits_5 : decode cX0_allExits 5 = .ok (.iload 4, 2) := by decide +kernel
theorem dX0_allExits_7 : decode cX0_allExits 7 = .ok (.iconst 5, 1) := by decide +kernel
theorem dX0_allExits_8 : decode cX0_allExits 8 = .ok (.if_icmp .ge 32, 3) := by decide +kernel
theorem dX0_allExits_11 : decode cX0_allExits 11 = .ok (.iload_n 1, 1) := by decide +kernel
theorem dX0_allExits_12 : decode cX0_allExits 12 = .ok (.iload 4, 2) := by decide +kernel
theorem dX0_allExits_14 : decode cX0_allExits 14 = .ok (.invokestatic 84, 3) := by decide +kernel
theorem dX0_allExits_17 : decode cX0_allExits 17 = .ok (.ifCond .eq 17, 3) := by decide +kernel
theorem dX0_allExits_20 : decode cX0_allExits 20 = .ok (.iload_n 3, 1) := by decide +kernel
theorem dX0_allExits_21 : decode cX0_allExits 21 = .ok (.aload_n 0, 1) := by decide +kernel
theorem dX0_allExits_22 : decode cX0_allExits 22 = .ok (.getfield 9, 3) := by decide +kernel
theorem dX0_allExits_25 : decode cX0_allExits 25 = .ok (.iload 4, 2) := by decide +kernel
theorem dX0_allExits_27 : decode cX0_allExits 27 = .ok (.iload_n 2, 1) := by decide +kernel
theorem dX0_allExits_28 : decode cX0_allExits 28 = .ok (.invokestatic 76, 3) := by decide +kernel
theorem dX0_allExits_31 : decode cX0_allExits 31 = .ok (.iaload, 1) := by decide +kernel
theorem dX0_allExits_32 : decode cX0_allExits 32 = .ok (.ior, 1) := by decide +kernel
theorem dX0_allExits_33 : decode cX0_allExits 33 = .ok (.istore_n 3, 1) := by decide +kernel
theorem dX0_allExits_34 : decode cX0_allExits 34 = .ok (.iinc 4 1, 3) := by decide +kernel
theorem dX0_allExits_37 : decode cX0_allExits 37 = .ok (.goto (-32), 3) := by decide +kernel
theorem dX0_allExits_40 : decode cX0_allExits 40 = .ok (.iload_n 3, 1) := by decide +kernel
theorem dX0_allExits_41 : decode cX0_allExits 41 = .ok (.ireturn, 1) := by decide +kernel
