theorem dX6_init_0 : decode cX6_init 0 = .ok (.aload_n 0, 1) := by decide +kernel
theorem dX6_init_1 : decode cX6_init 1 = .ok (.invokespecial 3, 3) := by decide +kernel
theorem dX6_init_4 : decode cX6_init 4 = .ok (.aload_n 0, 1) := by decide +kernel
theorem dX6_init_5 : decode cX6_init 5 = .ok (.new 9, 3) := by decide +kernel
theorem dX6_init_8 : decode cX6_init 8 = .ok (.dup, 1) := by decide +kernel
theorem dX6_init_9 : decode cX6_init 9 = .ok (.invokespecial 11, 3) := by decide +kernel
theorem dX6_init_12 : decode cX6_init 12 = .ok (.putfield 12, 3) := by decide +kernel
theorem dX6_init_15 : decode cX6_init 15 = .ok (.aload_n 0, 1) := by decide +kernel
theorem dX6_init_16 : decode cX6_init 16 = .ok (.new 16, 3) := by decide +kernel
theorem dX6_init_19 : decode cX6_init 19 = .ok (.dup, 1) := by decide +kernel
theorem dX6_init_20 : decode cX6_init 20 = .ok (.invokespecial 18, 3) := by decide +kernel
theorem dX6_init_23 : decode cX6_init 23 = .ok (.putfield 19, 3) := by decide +kernel
theorem dX6_init_26 : decode cX6_init 26 = .ok (.aload_n 0, 1) := by decide +kernel
theorem dX6_init_27 : decode cX6_init 27 = .ok (.bipush 6, 2) := by decide +kernel
theorem dX6_init_29 : decode cX6_init 29 = .ok (.anewarray 23, 3) := by decide +kernel
theorem dX6_init_32 : decode cX6_init 32 = .ok (.putfield 25, 3) := by decide +kernel
theorem dX6_init_35 : decode cX6_init 35 = .ok (.aload_n 0, 1) := by decide +kernel
theorem dX6_init_36 : decode cX6_init 36 = .ok (.new 29, 3) := by decide +kernel
theorem dX6_init_39 : decode cX6_init 39 = .ok (.dup, 1) := by decide +kernel
theorem dX6_init_40 : decode cX6_init 40 = .ok (.invokespecial 31, 3) := by decide +kernel
theorem dX6_init_43 : decode cX6_init 43 = .ok (.putfield 32, 3) := by decide +kernel
theorem dX6_init_46 : decode cX6_init 46 = .ok (.aload_n 0, 1) := by decide +kernel
theorem dX6_init_47 : decode cX6_init 47 = .ok (.new 36, 3) := by decide +kernel
theorem dX6_init_50 : decode cX6_init 50 = .ok (.dup, 1) := by decide +kernel
theorem dX6_init_51 : decode cX6_init 51 = .ok (.invokespecial 38, 3) := by decide +kernel
theorem dX6_init_54 : decode cX6_init 54 = .ok (.putfield 39, 3) := by decide +kernel
theorem dX6_init_57 : decode cX6_init 57 = .ok (.aload_n 0, 1) := by decide +kernel
theorem dX6_init_58 : decode cX6_init 58 = .ok (.new 43, 3) := by decide +kernel
theorem dX6_init_61 : decode cX6_init 61 = .ok (.dup, 1) := by decide +kernel
theorem dX6_init_62 : decode cX6_init 62 = .ok (.invokespecial 45, 3) := by decide +kernel
theorem dX6_init_65 : decode cX6_init 65 = .ok (.putfield 46, 3) := by decide +kernel
theorem dX6_init_68 : decode cX6_init 68 = .ok (.aload_n 0, 1) := by decide +kernel
theorem dX6_init_69 : decode cX6_init 69 = .ok (.iconst 0, 1) := by decide +kernel
theorem dX6_init_70 : decode cX6_init 70 = .ok (.putfield 50, 3) := by decide +kernel
theorem dX6_init_73 : decode cX6_init 73 = .ok (.iconst 0, 1) := by decide +kernel
theorem dX6_init_74 : decode cX6_init 74 = .ok (.istore_n 1, 1) := by decide +kernel
theorem dX6_init_75 : decode cX6_init 75 = .ok (.iload_n 1, 1) := by decide +kernel
theorem dX6_init_76 : decode cX6_init 76 = .ok (.bipush 6, 2) := by decide +kernel
theorem dX6_init_78 : decode cX6_init 78 = .ok (.if_icmp .ge 22, 3) := by decide +kernel
theorem dX6_init_81 : decode cX6_init 81 = .ok (.aload_n 0, 1) := by decide +kernel
theorem dX6_init_82 : decode cX6_init 82 = .ok (.getfield 25, 3) := by decide +kernel
theorem dX6_init_85 : decode cX6_init 85 = .ok (.iload_n 1, 1) := by decide +kernel
theorem dX6_init_86 : decode cX6_init 86 = .ok (.new 23, 3) := by decide +kernel
theorem dX6_init_89 : decode cX6_init 89 = .ok (.dup, 1) := by decide +kernel
theorem dX6_init_90 : decode cX6_init 90 = .ok (.invokespecial 54, 3) := by decide +kernel
theorem dX6_init_93 : decode cX6_init 93 = .ok (.aastore, 1) := by decide +kernel
theorem dX6_init_94 : decode cX6_init 94 = .ok (.iinc 1 1, 3) := by decide +kernel
theorem dX6_init_97 : decode cX6_init 97 = .ok (.goto (-22), 3) := by decide +kernel
theorem dX6_init_100 : decode cX6_init 100 = .ok (.return_, 1) := by decide +kernel
theorem dX6_machine_0 : decode cX6_machine 0 = .ok (.iload_n 1, 1) := by decide +kernel
theorem dX6_machine_1 : decode cX6_machine 1 = .ok (.iconst 1, 1) := by decide +kernel
theorem dX6_machine_2 : decode cX6_machine 2 = .ok (.if_icmp .lt 18, 3) := by decide +kernel
theorem dX6_machine_5 : decode cX6_machine 5 = .ok (.iload_n 1, 1) := by decide +kernel
theorem dX6_machine_6 : decode cX6_machine 6 = .ok (.iconst 5, 1) := by decide +kernel
theorem dX6_machine_7 : decode cX6_machine 7 = .ok (.if_icmp .gt 13, 3) := by decide +kernel
theorem dX6_machine_10 : decode cX6_machine 10 = .ok (.iload_n 2, 1) := by decide +kernel
theorem dX6_machine_11 : decode cX6_machine 11 = .ok (.iconst 1, 1) := by decide +kernel
theorem dX6_machine_12 : decode cX6_machine 12 = .ok (.if_icmp .lt 8, 3) := by decide +kernel
theorem dX6_machine_15 : decode cX6_machine 15 = .ok (.iload_n 2, 1) := by decide +kernel
theorem dX6_machine_16 : decode cX6_machine 16 = .ok (.iconst 5, 1) := by decide +kernel
theorem dX6_machine_17 : decode cX6_machine 17 = .ok (.if_icmp .le 6, 3) := by decide +kernel
theorem dX6_machine_20 : decode cX6_machine 20 = .ok (.bipush (-2), 2) := by decide +kernel
theorem dX6_machine_22 : decode cX6_machine 22 = .ok (.ireturn, 1) := by decide +kernel
theorem dX6_machine_23 : decode cX6_machine 23 = .ok (.aload_n 0, 1) := by decide +kernel
theorem dX6_machine_24 : decode cX6_machine 24 = .ok (.getfield 12, 3) := by decide +kernel
theorem dX6_machine_27 : decode cX6_machine 27 = .ok (.getfield 55, 3) := by decide +kernel
theorem dX6_machine_30 : decode cX6_machine 30 = .ok (.istore_n 3, 1) := by decide +kernel
theorem dX6_machine_31 : decode cX6_machine 31 = .ok (.aload_n 0, 1) := by decide +kernel
theorem dX6_machine_32 : decode cX6_machine 32 = .ok (.getfield 12, 3) := by decide +kernel
theorem dX6_machine_35 : decode cX6_machine 35 = .ok (.iload_n 1, 1) := by decide +kernel
theorem dX6_machine_36 : decode cX6_machine 36 = .ok (.iload_n 2, 1) := by decide +kernel
theorem dX6_machine_37 : decode cX6_machine 37 = .ok (.invokevirtual 58, 3) := by decide +kernel
theorem dX6_machine_40 : decode cX6_machine 40 = .ok (.aload_n 0, 1) := by decide +kernel
theorem dX6_machine_41 : decode cX6_machine 41 = .ok (.getfield 19, 3) := by decide +kernel
theorem dX6_machine_44 : decode cX6_machine 44 = .ok (.iconst 0, 1) := by decide +kernel
theorem dX6_machine_45 : decode cX6_machine 45 = .ok (.invokevirtual 62, 3) := by decide +kernel
theorem dX6_machine_48 : decode cX6_machine 48 = .ok (.aload_n 0, 1) := by decide +kernel
theorem dX6_machine_49 : decode cX6_machine 49 = .ok (.iconst 0, 1) := by decide +kernel
theorem dX6_machine_50 : decode cX6_machine 50 = .ok (.putfield 50, 3) := by decide +kernel
theorem dX6_machine_53 : decode cX6_machine 53 = .ok (.iload_n 3, 1) := by decide +kernel
theorem dX6_machine_54 : decode cX6_machine 54 = .ok (.ireturn, 1) := by decide +kernel
theorem dX6_rule_0 : decode cX6_rule 0 = .ok (.aload_n 0, 1) := by decide +kernel
theorem dX6_rule_1 : decode cX6_rule 1 = .ok (.getfield 12, 3) := by decide +kernel
theorem dX6_rule_4 : decode cX6_rule 4 = .ok (.iload_n 1, 1) := by decide +kernel
theorem dX6_rule_5 : decode cX6_rule 5 = .ok (.invokevirtual 65, 3) := by decide +kernel
theorem dX6_rule_8 : decode cX6_rule 8 = .ok (.ifCond .eq 25, 3) := by decide +kernel
theorem dX6_rule_11 : decode cX6_rule 11 = .ok (.aload_n 0, 1) := by decide +kernel
theorem dX6_rule_12 : decode cX6_rule 12 = .ok (.getfield 12, 3) := by decide +kernel
theorem dX6_rule_15 : decode cX6_rule 15 = .ok (.iload_n 2, 1) := by decide +kernel
theorem dX6_rule_16 : decode cX6_rule 16 = .ok (.invokevirtual 69, 3) := by decide +kernel
theorem dX6_rule_19 : decode cX6_rule 19 = .ok (.ifCond .eq 14, 3) := by decide +kernel
theorem dX6_rule_22 : decode cX6_rule 22 = .ok (.aload_n 0, 1) := by decide +kernel
theorem dX6_rule_23 : decode cX6_rule 23 = .ok (.getfield 12, 3) := by decide +kernel
theorem dX6_rule_26 : decode cX6_rule 26 = .ok (.iload_n 3, 1) := by decide +kernel
theorem dX6_rule_27 : decode cX6_rule 27 = .ok (.invokevirtual 65, 3) := by decide +kernel
theorem dX6_rule_30 : decode cX6_rule 30 = .ok (.ifCond .ne 6, 3) := by decide +kernel
theorem dX6_rule_33 : decode cX6_rule 33 = .ok (.bipush (-2), 2) := by decide +kernel
theorem dX6_rule_35 : decode cX6_rule 35 = .ok (.ireturn, 1) := by decide +kernel
theorem dX6_rule_36 : decode cX6_rule 36 = .ok (.iload 4, 2) := by decide +kernel
theorem dX6_rule_38 : decode cX6_rule 38 = .ok (.iconst (-1), 1) := by decide +kernel
theorem dX6_rule_39 : decode cX6_rule 39 = .ok (.if_icmp .ne 17, 3) := by decide +kernel
theorem dX6_rule_42 : decode cX6_rule 42 = .ok (.iload 5, 2) := by decide +kernel
theorem dX6_rule_44 : decode cX6_rule 44 = .ok (.iconst (-1), 1) := by decide +kernel
theorem dX6_rule_45 : decode cX6_rule 45 = .ok (.if_icmp .ne 7, 3) := by decide +kernel
theorem dX6_rule_48 : decode cX6_rule 48 = .ok (.iconst 1, 1) := by decide +kernel
theorem dX6_rule_49 : decode cX6_rule 49 = .ok (.goto 42, 3) := by decide +kernel
theorem dX6_rule_52 : decode cX6_rule 52 = .ok (.iconst 0, 1) := by decide +kernel
theorem dX6_rule_53 : decode cX6_rule 53 = .ok (.goto 38, 3) := by decide +kernel
theorem dX6_rule_56 : decode cX6_rule 56 = .ok (.aload_n 0, 1) := by decide +kernel
theorem dX6_rule_57 : decode cX6_rule 57 = .ok (.getfield 12, 3) := by decide +kernel
theorem dX6_rule_60 : decode cX6_rule 60 = .ok (.iload 4, 2) := by decide +kernel
theorem dX6_rule_62 : decode cX6_rule 62 = .ok (.invokevirtual 69, 3) := by decide +kernel
theorem dX6_rule_65 : decode cX6_rule 65 = .ok (.ifCond .eq 25, 3) := by decide +kernel
theorem dX6_rule_68 : decode cX6_rule 68 = .ok (.iload 5, 2) := by decide +kernel
theorem dX6_rule_70 : decode cX6_rule 70 = .ok (.iconst (-1), 1) := by decide +kernel
theorem dX6_rule_71 : decode cX6_rule 71 = .ok (.if_icmp .eq 15, 3) := by decide +kernel
theorem dX6_rule_74 : decode cX6_rule 74 = .ok (.aload_n 0, 1) := by decide +kernel
theorem dX6_rule_75 : decode cX6_rule 75 = .ok (.getfield 12, 3) := by decide +kernel
theorem dX6_rule_78 : decode cX6_rule 78 = .ok (.iload 5, 2) := by decide +kernel
theorem dX6_rule_80 : decode cX6_rule 80 = .ok (.invokevirtual 69, 3) := by decide +kernel
theorem dX6_rule_83 : decode cX6_rule 83 = .ok (.ifCond .eq 7, 3) := by decide +kernel
theorem dX6_rule_86 : decode cX6_rule 86 = .ok (.iconst 1, 1) := by decide +kernel
theorem dX6_rule_87 : decode cX6_rule 87 = .ok (.goto 4, 3) := by decide +kernel
theorem dX6_rule_90 : decode cX6_rule 90 = .ok (.iconst 0, 1) := by decide +kernel
theorem dX6_rule_91 : decode cX6_rule 91 = .ok (.istore 6, 2) := by decide +kernel
theorem dX6_rule_93 : decode cX6_rule 93 = .ok (.iload 6, 2) := by decide +kernel
theorem dX6_rule_95 : decode cX6_rule 95 = .ok (.ifCond .ne 6, 3) := by decide +kernel
theorem dX6_rule_98 : decode cX6_rule 98 = .ok (.bipush (-2), 2) := by decide +kernel
theorem dX6_rule_100 : decode cX6_rule 100 = .ok (.ireturn, 1) := by decide +kernel
theorem dX6_rule_101 : decode cX6_rule 101 = .ok (.aload_n 0, 1) := by decide +kernel
theorem dX6_rule_102 : decode cX6_rule 102 = .ok (.getfield 12, 3) := by decide +kernel
theorem dX6_rule_105 : decode cX6_rule 105 = .ok (.getfield 55, 3) := by decide +kernel
theorem dX6_rule_108 : decode cX6_rule 108 = .ok (.bipush 30, 2) := by decide +kernel
theorem dX6_rule_110 : decode cX6_rule 110 = .ok (.if_icmp .ne 6, 3) := by decide +kernel
theorem dX6_rule_113 : decode cX6_rule 113 = .ok (.bipush (-4), 2) := by decide +kernel
theorem dX6_rule_115 : decode cX6_rule 115 = .ok (.ireturn, 1) := by decide +kernel
theorem dX6_rule_116 : decode cX6_rule 116 = .ok (.aload_n 0, 1) := by decide +kernel
theorem dX6_rule_117 : decode cX6_rule 117 = .ok (.getfield 12, 3) := by decide +kernel
theorem dX6_rule_120 : decode cX6_rule 120 = .ok (.iload_n 1, 1) := by decide +kernel
theorem dX6_rule_121 : decode cX6_rule 121 = .ok (.iload_n 2, 1) := by decide +kernel
theorem dX6_rule_122 : decode cX6_rule 122 = .ok (.invokestatic 72, 3) := by decide +kernel
theorem dX6_rule_125 : decode cX6_rule 125 = .ok (.iload_n 3, 1) := by decide +kernel
theorem dX6_rule_126 : decode cX6_rule 126 = .ok (.iload 4, 2) := by decide +kernel
theorem dX6_rule_128 : decode cX6_rule 128 = .ok (.iload 5, 2) := by decide +kernel
theorem dX6_rule_130 : decode cX6_rule 130 = .ok (.invokevirtual 76, 3) := by decide +kernel
theorem dX6_rule_133 : decode cX6_rule 133 = .ok (.ireturn, 1) := by decide +kernel
theorem dX6_unrule_0 : decode cX6_unrule 0 = .ok (.aload_n 0, 1) := by decide +kernel
theorem dX6_unrule_1 : decode cX6_unrule 1 = .ok (.getfield 12, 3) := by decide +kernel
theorem dX6_unrule_4 : decode cX6_unrule 4 = .ok (.getfield 55, 3) := by decide +kernel
theorem dX6_unrule_7 : decode cX6_unrule 7 = .ok (.ifCond .ne 6, 3) := by decide +kernel
theorem dX6_unrule_10 : decode cX6_unrule 10 = .ok (.bipush (-3), 2) := by decide +kernel
theorem dX6_unrule_12 : decode cX6_unrule 12 = .ok (.ireturn, 1) := by decide +kernel
theorem dX6_unrule_13 : decode cX6_unrule 13 = .ok (.aload_n 0, 1) := by decide +kernel
theorem dX6_unrule_14 : decode cX6_unrule 14 = .ok (.getfield 12, 3) := by decide +kernel
theorem dX6_unrule_17 : decode cX6_unrule 17 = .ok (.invokevirtual 80, 3) := by decide +kernel
theorem dX6_unrule_20 : decode cX6_unrule 20 = .ok (.ireturn, 1) := by decide +kernel
theorem dX6_stand_0 : decode cX6_stand 0 = .ok (.aload_n 0, 1) := by decide +kernel
theorem dX6_stand_1 : decode cX6_stand 1 = .ok (.getfield 12, 3) := by decide +kernel
theorem dX6_stand_4 : decode cX6_stand 4 = .ok (.iload_n 1, 1) := by decide +kernel
theorem dX6_stand_5 : decode cX6_stand 5 = .ok (.invokevirtual 65, 3) := by decide +kernel
theorem dX6_stand_8 : decode cX6_stand 8 = .ok (.ifCond .ne 6, 3) := by decide +kernel
theorem dX6_stand_11 : decode cX6_stand 11 = .ok (.bipush (-2), 2) := by decide +kernel
theorem dX6_stand_13 : decode cX6_stand 13 = .ok (.ireturn, 1) := by decide +kernel
theorem dX6_stand_14 : decode cX6_stand 14 = .ok (.aload_n 0, 1) := by decide +kernel
theorem dX6_stand_15 : decode cX6_stand 15 = .ok (.getfield 19, 3) := by decide +kernel
theorem dX6_stand_18 : decode cX6_stand 18 = .ok (.getfield 84, 3) := by decide +kernel
theorem dX6_stand_21 : decode cX6_stand 21 = .ok (.istore_n 2, 1) := by decide +kernel
theorem dX6_stand_22 : decode cX6_stand 22 = .ok (.aload_n 0, 1) := by decide +kernel
theorem dX6_stand_23 : decode cX6_stand 23 = .ok (.getfield 19, 3) := by decide +kernel
theorem dX6_stand_26 : decode cX6_stand 26 = .ok (.iload_n 1, 1) := by decide +kernel
theorem dX6_stand_27 : decode cX6_stand 27 = .ok (.invokevirtual 62, 3) := by decide +kernel
theorem dX6_stand_30 : decode cX6_stand 30 = .ok (.iload_n 2, 1) := by decide +kernel
theorem dX6_stand_31 : decode cX6_stand 31 = .ok (.ireturn, 1) := by decide +kernel
theorem dX6_push_0 : decode cX6_push 0 = .ok (.aload_n 0, 1) := by decide +kernel
theorem dX6_push_1 : decode cX6_push 1 = .ok (.getfield 12, 3) := by decide +kernel
theorem dX6_push_4 : decode cX6_push 4 = .ok (.iload_n 1, 1) := by decide +kernel
theorem dX6_push_5 : decode cX6_push 5 = .ok (.invokevirtual 69, 3) := by decide +kernel
theorem dX6_push_8 : decode cX6_push 8 = .ok (.ifCond .ne 6, 3) := by decide +kernel
theorem dX6_push_11 : decode cX6_push 11 = .ok (.bipush (-2), 2) := by decide +kernel
theorem dX6_push_13 : decode cX6_push 13 = .ok (.ireturn, 1) := by decide +kernel
theorem dX6_push_14 : decode cX6_push 14 = .ok (.aload_n 0, 1) := by decide +kernel
theorem dX6_push_15 : decode cX6_push 15 = .ok (.getfield 19, 3) := by decide +kernel
theorem dX6_push_18 : decode cX6_push 18 = .ok (.getfield 84, 3) := by decide +kernel
theorem dX6_push_21 : decode cX6_push 21 = .ok (.bipush 60, 2) := by decide +kernel
theorem dX6_push_23 : decode cX6_push 23 = .ok (.if_icmp .ne 6, 3) := by decide +kernel
theorem dX6_push_26 : decode cX6_push 26 = .ok (.bipush (-4), 2) := by decide +kernel
theorem dX6_push_28 : decode cX6_push 28 = .ok (.ireturn, 1) := by decide +kernel
theorem dX6_push_29 : decode cX6_push 29 = .ok (.aload_n 0, 1) := by decide +kernel
theorem dX6_push_30 : decode cX6_push 30 = .ok (.getfield 19, 3) := by decide +kernel
theorem dX6_push_33 : decode cX6_push 33 = .ok (.iload_n 1, 1) := by decide +kernel
theorem dX6_push_34 : decode cX6_push 34 = .ok (.invokevirtual 87, 3) := by decide +kernel
theorem dX6_push_37 : decode cX6_push 37 = .ok (.aload_n 0, 1) := by decide +kernel
theorem dX6_push_38 : decode cX6_push 38 = .ok (.getfield 19, 3) := by decide +kernel
theorem dX6_push_41 : decode cX6_push 41 = .ok (.getfield 84, 3) := by decide +kernel
theorem dX6_push_44 : decode cX6_push 44 = .ok (.ireturn, 1) := by decide +kernel
theorem dX6_at_0 : decode cX6_at 0 = .ok (.iload_n 1, 1) := by decide +kernel
theorem dX6_at_1 : decode cX6_at 1 = .ok (.iconst (-1), 1) := by decide +kernel
theorem dX6_at_2 : decode cX6_at 2 = .ok (.if_icmp .lt 14, 3) := by decide +kernel
theorem dX6_at_5 : decode cX6_at 5 = .ok (.iload_n 1, 1) := by decide +kernel
theorem dX6_at_6 : decode cX6_at 6 = .ok (.aload_n 0, 1) := by decide +kernel
theorem dX6_at_7 : decode cX6_at 7 = .ok (.getfield 19, 3) := by decide +kernel
theorem dX6_at_10 : decode cX6_at 10 = .ok (.getfield 84, 3) := by decide +kernel
theorem dX6_at_13 : decode cX6_at 13 = .ok (.if_icmp .lt 6, 3) := by decide +kernel
theorem dX6_at_16 : decode cX6_at 16 = .ok (.bipush (-2), 2) := by decide +kernel
theorem dX6_at_18 : decode cX6_at 18 = .ok (.ireturn, 1) := by decide +kernel
theorem dX6_at_19 : decode cX6_at 19 = .ok (.iload_n 1, 1) := by decide +kernel
theorem dX6_at_20 : decode cX6_at 20 = .ok (.iconst (-1), 1) := by decide +kernel
theorem dX6_at_21 : decode cX6_at 21 = .ok (.if_icmp .ne 13, 3) := by decide +kernel
theorem dX6_at_24 : decode cX6_at 24 = .ok (.aload_n 0, 1) := by decide +kernel
theorem dX6_at_25 : decode cX6_at 25 = .ok (.getfield 19, 3) := by decide +kernel
theorem dX6_at_28 : decode cX6_at 28 = .ok (.getfield 90, 3) := by decide +kernel
theorem dX6_at_31 : decode cX6_at 31 = .ok (.goto 22, 3) := by decide +kernel
theorem dX6_at_34 : decode cX6_at 34 = .ok (.aload_n 0, 1) := by decide +kernel
theorem dX6_at_35 : decode cX6_at 35 = .ok (.getfield 19, 3) := by decide +kernel
theorem dX6_at_38 : decode cX6_at 38 = .ok (.getfield 93, 3) := by decide +kernel
theorem dX6_at_41 : decode cX6_at 41 = .ok (.aload_n 0, 1) := by decide +kernel
theorem dX6_at_42 : decode cX6_at 42 = .ok (.getfield 19, 3) := by decide +kernel
theorem dX6_at_45 : decode cX6_at 45 = .ok (.getfield 84, 3) := by decide +kernel
theorem dX6_at_48 : decode cX6_at 48 = .ok (.iconst 1, 1) := by decide +kernel
theorem dX6_at_49 : decode cX6_at 49 = .ok (.isub, 1) := by decide +kernel
theorem dX6_at_50 : decode cX6_at 50 = .ok (.iload_n 1, 1) := by decide +kernel
theorem dX6_at_51 : decode cX6_at 51 = .ok (.isub, 1) := by decide +kernel
theorem dX6_at_52 : decode cX6_at 52 = .ok (.iaload, 1) := by decide +kernel
theorem dX6_at_53 : decode cX6_at 53 = .ok (.ireturn, 1) := by decide +kernel
theorem dX6_go_0 : decode cX6_go 0 = .ok (.iload_n 1, 1) := by decide +kernel
theorem dX6_go_1 : decode cX6_go 1 = .ok (.ifCond .lt 14, 3) := by decide +kernel
theorem dX6_go_4 : decode cX6_go 4 = .ok (.iload_n 1, 1) := by decide +kernel
theorem dX6_go_5 : decode cX6_go 5 = .ok (.aload_n 0, 1) := by decide +kernel
theorem dX6_go_6 : decode cX6_go 6 = .ok (.getfield 12, 3) := by decide +kernel
theorem dX6_go_9 : decode cX6_go 9 = .ok (.getfield 55, 3) := by decide +kernel
theorem dX6_go_12 : decode cX6_go 12 = .ok (.if_icmp .lt 6, 3) := by decide +kernel
theorem dX6_go_15 : decode cX6_go 15 = .ok (.bipush (-2), 2) := by decide +kernel
theorem dX6_go_17 : decode cX6_go 17 = .ok (.ireturn, 1) := by decide +kernel
theorem dX6_go_18 : decode cX6_go 18 = .ok (.aload_n 0, 1) := by decide +kernel
theorem dX6_go_19 : decode cX6_go 19 = .ok (.getfield 12, 3) := by decide +kernel
theorem dX6_go_22 : decode cX6_go 22 = .ok (.getfield 97, 3) := by decide +kernel
theorem dX6_go_25 : decode cX6_go 25 = .ok (.iload_n 1, 1) := by decide +kernel
theorem dX6_go_26 : decode cX6_go 26 = .ok (.iaload, 1) := by decide +kernel
theorem dX6_go_27 : decode cX6_go 27 = .ok (.aload_n 0, 1) := by decide +kernel
theorem dX6_go_28 : decode cX6_go 28 = .ok (.getfield 19, 3) := by decide +kernel
theorem dX6_go_31 : decode cX6_go 31 = .ok (.invokevirtual 100, 3) := by decide +kernel
theorem dX6_go_34 : decode cX6_go 34 = .ok (.if_icmp .eq 6, 3) := by decide +kernel
theorem dX6_go_37 : decode cX6_go 37 = .ok (.bipush (-3), 2) := by decide +kernel
theorem dX6_go_39 : decode cX6_go 39 = .ok (.ireturn, 1) := by decide +kernel
theorem dX6_go_40 : decode cX6_go 40 = .ok (.aload_n 0, 1) := by decide +kernel
theorem dX6_go_41 : decode cX6_go 41 = .ok (.getfield 19, 3) := by decide +kernel
theorem dX6_go_44 : decode cX6_go 44 = .ok (.aload_n 0, 1) := by decide +kernel
theorem dX6_go_45 : decode cX6_go 45 = .ok (.getfield 12, 3) := by decide +kernel
theorem dX6_go_48 : decode cX6_go 48 = .ok (.iload_n 1, 1) := by decide +kernel
theorem dX6_go_49 : decode cX6_go 49 = .ok (.invokevirtual 102, 3) := by decide +kernel
theorem dX6_go_52 : decode cX6_go 52 = .ok (.ifCond .ne 6, 3) := by decide +kernel
theorem dX6_go_55 : decode cX6_go 55 = .ok (.bipush (-4), 2) := by decide +kernel
theorem dX6_go_57 : decode cX6_go 57 = .ok (.ireturn, 1) := by decide +kernel
theorem dX6_go_58 : decode cX6_go 58 = .ok (.aload_n 0, 1) := by decide +kernel
theorem dX6_go_59 : decode cX6_go 59 = .ok (.getfield 19, 3) := by decide +kernel
theorem dX6_go_62 : decode cX6_go 62 = .ok (.aload_n 0, 1) := by decide +kernel
theorem dX6_go_63 : decode cX6_go 63 = .ok (.getfield 12, 3) := by decide +kernel
theorem dX6_go_66 : decode cX6_go 66 = .ok (.iload_n 1, 1) := by decide +kernel
theorem dX6_go_67 : decode cX6_go 67 = .ok (.invokevirtual 106, 3) := by decide +kernel
theorem dX6_go_70 : decode cX6_go 70 = .ok (.aload_n 0, 1) := by decide +kernel
theorem dX6_go_71 : decode cX6_go 71 = .ok (.getfield 19, 3) := by decide +kernel
theorem dX6_go_74 : decode cX6_go 74 = .ok (.getfield 84, 3) := by decide +kernel
theorem dX6_go_77 : decode cX6_go 77 = .ok (.ireturn, 1) := by decide +kernel
theorem dX6_set_0 : decode cX6_set 0 = .ok (.aload_n 0, 1) := by decide +kernel
theorem dX6_set_1 : decode cX6_set 1 = .ok (.getfield 50, 3) := by decide +kernel
theorem dX6_set_4 : decode cX6_set 4 = .ok (.bipush 6, 2) := by decide +kernel
theorem dX6_set_6 : decode cX6_set 6 = .ok (.if_icmp .ne 6, 3) := by decide +kernel
theorem dX6_set_9 : decode cX6_set 9 = .ok (.bipush (-4), 2) := by decide +kernel
theorem dX6_set_11 : decode cX6_set 11 = .ok (.ireturn, 1) := by decide +kernel
theorem dX6_set_12 : decode cX6_set 12 = .ok (.aload_n 0, 1) := by decide +kernel
theorem dX6_set_13 : decode cX6_set 13 = .ok (.getfield 25, 3) := by decide +kernel
theorem dX6_set_16 : decode cX6_set 16 = .ok (.aload_n 0, 1) := by decide +kernel
theorem dX6_set_17 : decode cX6_set 17 = .ok (.getfield 50, 3) := by decide +kernel
theorem dX6_set_20 : decode cX6_set 20 = .ok (.aaload, 1) := by decide +kernel
theorem dX6_set_21 : decode cX6_set 21 = .ok (.invokevirtual 110, 3) := by decide +kernel
theorem dX6_set_24 : decode cX6_set 24 = .ok (.aload_n 0, 1) := by decide +kernel
theorem dX6_set_25 : decode cX6_set 25 = .ok (.dup, 1) := by decide +kernel
theorem dX6_set_26 : decode cX6_set 26 = .ok (.getfield 50, 3) := by decide +kernel
theorem dX6_set_29 : decode cX6_set 29 = .ok (.iconst 1, 1) := by decide +kernel
theorem dX6_set_30 : decode cX6_set 30 = .ok (.iadd, 1) := by decide +kernel
theorem dX6_set_31 : decode cX6_set 31 = .ok (.putfield 50, 3) := by decide +kernel
theorem dX6_set_34 : decode cX6_set 34 = .ok (.aload_n 0, 1) := by decide +kernel
theorem dX6_set_35 : decode cX6_set 35 = .ok (.getfield 50, 3) := by decide +kernel
theorem dX6_set_38 : decode cX6_set 38 = .ok (.iconst 1, 1) := by decide +kernel
theorem dX6_set_39 : decode cX6_set 39 = .ok (.isub, 1) := by decide +kernel
theorem dX6_set_40 : decode cX6_set 40 = .ok (.ireturn, 1) := by decide +kernel
theorem dX6_link_0 : decode cX6_link 0 = .ok (.aload_n 0, 1) := by decide +kernel
theorem dX6_link_1 : decode cX6_link 1 = .ok (.iload_n 1, 1) := by decide +kernel
theorem dX6_link_2 : decode cX6_link 2 = .ok (.invokevirtual 112, 3) := by decide +kernel
theorem dX6_link_5 : decode cX6_link 5 = .ok (.ifCond .eq 36, 3) := by decide +kernel
theorem dX6_link_8 : decode cX6_link 8 = .ok (.aload_n 0, 1) := by decide +kernel
theorem dX6_link_9 : decode cX6_link 9 = .ok (.iload_n 2, 1) := by decide +kernel
theorem dX6_link_10 : decode cX6_link 10 = .ok (.iload_n 3, 1) := by decide +kernel
theorem dX6_link_11 : decode cX6_link 11 = .ok (.invokevirtual 115, 3) := by decide +kernel
theorem dX6_link_14 : decode cX6_link 14 = .ok (.ifCond .eq 27, 3) := by decide +kernel
theorem dX6_link_17 : decode cX6_link 17 = .ok (.aload_n 0, 1) := by decide +kernel
theorem dX6_link_18 : decode cX6_link 18 = .ok (.getfield 12, 3) := by decide +kernel
theorem dX6_link_21 : decode cX6_link 21 = .ok (.iload 4, 2) := by decide +kernel
theorem dX6_link_23 : decode cX6_link 23 = .ok (.invokevirtual 69, 3) := by decide +kernel
theorem dX6_link_26 : decode cX6_link 26 = .ok (.ifCond .eq 15, 3) := by decide +kernel
theorem dX6_link_29 : decode cX6_link 29 = .ok (.iload 5, 2) := by decide +kernel
theorem dX6_link_31 : decode cX6_link 31 = .ok (.ifCond .lt 10, 3) := by decide +kernel
theorem dX6_link_34 : decode cX6_link 34 = .ok (.iload 5, 2) := by decide +kernel
theorem dX6_link_36 : decode cX6_link 36 = .ok (.bipush 6, 2) := by decide +kernel
theorem dX6_link_38 : decode cX6_link 38 = .ok (.if_icmp .lt 6, 3) := by decide +kernel
theorem dX6_link_41 : decode cX6_link 41 = .ok (.bipush (-2), 2) := by decide +kernel
theorem dX6_link_43 : decode cX6_link 43 = .ok (.ireturn, 1) := by decide +kernel
theorem dX6_link_44 : decode cX6_link 44 = .ok (.aload_n 0, 1) := by decide +kernel
theorem dX6_link_45 : decode cX6_link 45 = .ok (.getfield 25, 3) := by decide +kernel
theorem dX6_link_48 : decode cX6_link 48 = .ok (.iload_n 1, 1) := by decide +kernel
theorem dX6_link_49 : decode cX6_link 49 = .ok (.aaload, 1) := by decide +kernel
theorem dX6_link_50 : decode cX6_link 50 = .ok (.getfield 119, 3) := by decide +kernel
theorem dX6_link_53 : decode cX6_link 53 = .ok (.bipush 24, 2) := by decide +kernel
theorem dX6_link_55 : decode cX6_link 55 = .ok (.if_icmp .ne 6, 3) := by decide +kernel
theorem dX6_link_58 : decode cX6_link 58 = .ok (.bipush (-4), 2) := by decide +kernel
theorem dX6_link_60 : decode cX6_link 60 = .ok (.ireturn, 1) := by decide +kernel
theorem dX6_link_61 : decode cX6_link 61 = .ok (.aload_n 0, 1) := by decide +kernel
theorem dX6_link_62 : decode cX6_link 62 = .ok (.getfield 25, 3) := by decide +kernel
theorem dX6_link_65 : decode cX6_link 65 = .ok (.iload_n 1, 1) := by decide +kernel
theorem dX6_link_66 : decode cX6_link 66 = .ok (.aaload, 1) := by decide +kernel
theorem dX6_link_67 : decode cX6_link 67 = .ok (.iload_n 2, 1) := by decide +kernel
theorem dX6_link_68 : decode cX6_link 68 = .ok (.iload_n 3, 1) := by decide +kernel
theorem dX6_link_69 : decode cX6_link 69 = .ok (.invokestatic 122, 3) := by decide +kernel
theorem dX6_link_72 : decode cX6_link 72 = .ok (.iload 4, 2) := by decide +kernel
theorem dX6_link_74 : decode cX6_link 74 = .ok (.iload 5, 2) := by decide +kernel
theorem dX6_link_76 : decode cX6_link 76 = .ok (.invokevirtual 125, 3) := by decide +kernel
theorem dX6_link_79 : decode cX6_link 79 = .ok (.ireturn, 1) := by decide +kernel
theorem dX6_last_0 : decode cX6_last 0 = .ok (.aload_n 0, 1) := by decide +kernel
theorem dX6_last_1 : decode cX6_last 1 = .ok (.iload_n 1, 1) := by decide +kernel
theorem dX6_last_2 : decode cX6_last 2 = .ok (.invokevirtual 112, 3) := by decide +kernel
theorem dX6_last_5 : decode cX6_last 5 = .ok (.ifCond .eq 12, 3) := by decide +kernel
theorem dX6_last_8 : decode cX6_last 8 = .ok (.aload_n 0, 1) := by decide +kernel
theorem dX6_last_9 : decode cX6_last 9 = .ok (.iload_n 2, 1) := by decide +kernel
theorem dX6_last_10 : decode cX6_last 10 = .ok (.iload_n 3, 1) := by decide +kernel
theorem dX6_last_11 : decode cX6_last 11 = .ok (.invokevirtual 115, 3) := by decide +kernel
theorem dX6_last_14 : decode cX6_last 14 = .ok (.ifCond .ne 6, 3) := by decide +kernel
theorem dX6_last_17 : decode cX6_last 17 = .ok (.bipush (-2), 2) := by decide +kernel
theorem dX6_last_19 : decode cX6_last 19 = .ok (.ireturn, 1) := by decide +kernel
theorem dX6_last_20 : decode cX6_last 20 = .ok (.aload_n 0, 1) := by decide +kernel
theorem dX6_last_21 : decode cX6_last 21 = .ok (.getfield 25, 3) := by decide +kernel
theorem dX6_last_24 : decode cX6_last 24 = .ok (.iload_n 1, 1) := by decide +kernel
theorem dX6_last_25 : decode cX6_last 25 = .ok (.aaload, 1) := by decide +kernel
theorem dX6_last_26 : decode cX6_last 26 = .ok (.iload_n 2, 1) := by decide +kernel
theorem dX6_last_27 : decode cX6_last 27 = .ok (.iload_n 3, 1) := by decide +kernel
theorem dX6_last_28 : decode cX6_last 28 = .ok (.invokestatic 122, 3) := by decide +kernel
theorem dX6_last_31 : decode cX6_last 31 = .ok (.iload 4, 2) := by decide +kernel
theorem dX6_last_33 : decode cX6_last 33 = .ok (.invokevirtual 129, 3) := by decide +kernel
theorem dX6_last_36 : decode cX6_last 36 = .ok (.ifCond .eq 7, 3) := by decide +kernel
theorem dX6_last_39 : decode cX6_last 39 = .ok (.iconst 1, 1) := by decide +kernel
theorem dX6_last_40 : decode cX6_last 40 = .ok (.goto 4, 3) := by decide +kernel
theorem dX6_last_43 : decode cX6_last 43 = .ok (.iconst 0, 1) := by decide +kernel
theorem dX6_last_44 : decode cX6_last 44 = .ok (.ireturn, 1) := by decide +kernel
theorem dX6_unset_0 : decode cX6_unset 0 = .ok (.aload_n 0, 1) := by decide +kernel
theorem dX6_unset_1 : decode cX6_unset 1 = .ok (.getfield 50, 3) := by decide +kernel
theorem dX6_unset_4 : decode cX6_unset 4 = .ok (.ifCond .ne 6, 3) := by decide +kernel
theorem dX6_unset_7 : decode cX6_unset 7 = .ok (.bipush (-3), 2) := by decide +kernel
theorem dX6_unset_9 : decode cX6_unset 9 = .ok (.ireturn, 1) := by decide +kernel
theorem dX6_unset_10 : decode cX6_unset 10 = .ok (.aload_n 0, 1) := by decide +kernel
theorem dX6_unset_11 : decode cX6_unset 11 = .ok (.dup, 1) := by decide +kernel
theorem dX6_unset_12 : decode cX6_unset 12 = .ok (.getfield 50, 3) := by decide +kernel
theorem dX6_unset_15 : decode cX6_unset 15 = .ok (.iconst 1, 1) := by decide +kernel
theorem dX6_unset_16 : decode cX6_unset 16 = .ok (.isub, 1) := by decide +kernel
theorem dX6_unset_17 : decode cX6_unset 17 = .ok (.putfield 50, 3) := by decide +kernel
theorem dX6_unset_20 : decode cX6_unset 20 = .ok (.aload_n 0, 1) := by decide +kernel
theorem dX6_unset_21 : decode cX6_unset 21 = .ok (.getfield 50, 3) := by decide +kernel
theorem dX6_unset_24 : decode cX6_unset 24 = .ok (.ireturn, 1) := by decide +kernel
theorem dX6_in_0 : decode cX6_in 0 = .ok (.aload_n 0, 1) := by decide +kernel
theorem dX6_in_1 : decode cX6_in 1 = .ok (.iload_n 1, 1) := by decide +kernel
theorem dX6_in_2 : decode cX6_in 2 = .ok (.invokevirtual 112, 3) := by decide +kernel
theorem dX6_in_5 : decode cX6_in 5 = .ok (.ifCond .ne 6, 3) := by decide +kernel
theorem dX6_in_8 : decode cX6_in 8 = .ok (.bipush (-2), 2) := by decide +kernel
theorem dX6_in_10 : decode cX6_in 10 = .ok (.ireturn, 1) := by decide +kernel
theorem dX6_in_11 : decode cX6_in 11 = .ok (.aload_n 0, 1) := by decide +kernel
theorem dX6_in_12 : decode cX6_in 12 = .ok (.getfield 25, 3) := by decide +kernel
theorem dX6_in_15 : decode cX6_in 15 = .ok (.iload_n 1, 1) := by decide +kernel
theorem dX6_in_16 : decode cX6_in 16 = .ok (.aaload, 1) := by decide +kernel
theorem dX6_in_17 : decode cX6_in 17 = .ok (.aload_n 0, 1) := by decide +kernel
theorem dX6_in_18 : decode cX6_in 18 = .ok (.getfield 19, 3) := by decide +kernel
theorem dX6_in_21 : decode cX6_in 21 = .ok (.invokevirtual 133, 3) := by decide +kernel
theorem dX6_in_24 : decode cX6_in 24 = .ok (.ifCond .eq 7, 3) := by decide +kernel
theorem dX6_in_27 : decode cX6_in 27 = .ok (.iconst 1, 1) := by decide +kernel
theorem dX6_in_28 : decode cX6_in 28 = .ok (.goto 4, 3) := by decide +kernel
theorem dX6_in_31 : decode cX6_in 31 = .ok (.iconst 0, 1) := by decide +kernel
theorem dX6_in_32 : decode cX6_in 32 = .ok (.ireturn, 1) := by decide +kernel
theorem dX6_far_0 : decode cX6_far 0 = .ok (.aload_n 0, 1) := by decide +kernel
theorem dX6_far_1 : decode cX6_far 1 = .ok (.iload_n 1, 1) := by decide +kernel
theorem dX6_far_2 : decode cX6_far 2 = .ok (.invokevirtual 112, 3) := by decide +kernel
theorem dX6_far_5 : decode cX6_far 5 = .ok (.ifCond .ne 7, 3) := by decide +kernel
theorem dX6_far_8 : decode cX6_far 8 = .ok (.ldc2_w 137, 3) := by decide +kernel
theorem dX6_far_11 : decode cX6_far 11 = .ok (.lreturn, 1) := by decide +kernel
theorem dX6_far_12 : decode cX6_far 12 = .ok (.aload_n 0, 1) := by decide +kernel
theorem dX6_far_13 : decode cX6_far 13 = .ok (.iload_n 1, 1) := by decide +kernel
theorem dX6_far_14 : decode cX6_far 14 = .ok (.invokevirtual 139, 3) := by decide +kernel
theorem dX6_far_17 : decode cX6_far 17 = .ok (.invokestatic 143, 3) := by decide +kernel
theorem dX6_far_20 : decode cX6_far 20 = .ok (.lreturn, 1) := by decide +kernel
theorem dX6_step_0 : decode cX6_step 0 = .ok (.aload_n 0, 1) := by decide +kernel
theorem dX6_step_1 : decode cX6_step 1 = .ok (.iload_n 1, 1) := by decide +kernel
theorem dX6_step_2 : decode cX6_step 2 = .ok (.invokevirtual 112, 3) := by decide +kernel
theorem dX6_step_5 : decode cX6_step 5 = .ok (.ifCond .ne 6, 3) := by decide +kernel
theorem dX6_step_8 : decode cX6_step 8 = .ok (.bipush (-2), 2) := by decide +kernel
theorem dX6_step_10 : decode cX6_step 10 = .ok (.ireturn, 1) := by decide +kernel
theorem dX6_step_11 : decode cX6_step 11 = .ok (.aload_n 0, 1) := by decide +kernel
theorem dX6_step_12 : decode cX6_step 12 = .ok (.iload_n 1, 1) := by decide +kernel
theorem dX6_step_13 : decode cX6_step 13 = .ok (.invokevirtual 139, 3) := by decide +kernel
theorem dX6_step_16 : decode cX6_step 16 = .ok (.lstore_n 2, 1) := by decide +kernel
theorem dX6_step_17 : decode cX6_step 17 = .ok (.lload_n 2, 1) := by decide +kernel
theorem dX6_step_18 : decode cX6_step 18 = .ok (.lconst 0, 1) := by decide +kernel
theorem dX6_step_19 : decode cX6_step 19 = .ok (.lcmp, 1) := by decide +kernel
theorem dX6_step_20 : decode cX6_step 20 = .ok (.ifCond .eq 11, 3) := by decide +kernel
theorem dX6_step_23 : decode cX6_step 23 = .ok (.lload_n 2, 1) := by decide +kernel
theorem dX6_step_24 : decode cX6_step 24 = .ok (.ldc2_w 147, 3) := by decide +kernel
theorem dX6_step_27 : decode cX6_step 27 = .ok (.lcmp, 1) := by decide +kernel
theorem dX6_step_28 : decode cX6_step 28 = .ok (.ifCond .lt 6, 3) := by decide +kernel
theorem dX6_step_31 : decode cX6_step 31 = .ok (.bipush (-3), 2) := by decide +kernel
theorem dX6_step_33 : decode cX6_step 33 = .ok (.ireturn, 1) := by decide +kernel
theorem dX6_step_34 : decode cX6_step 34 = .ok (.aload_n 0, 1) := by decide +kernel
theorem dX6_step_35 : decode cX6_step 35 = .ok (.iload_n 1, 1) := by decide +kernel
theorem dX6_step_36 : decode cX6_step 36 = .ok (.lload_n 2, 1) := by decide +kernel
theorem dX6_step_37 : decode cX6_step 37 = .ok (.invokevirtual 149, 3) := by decide +kernel
theorem dX6_step_40 : decode cX6_step 40 = .ok (.istore 4, 2) := by decide +kernel
theorem dX6_step_42 : decode cX6_step 42 = .ok (.iload 4, 2) := by decide +kernel
theorem dX6_step_44 : decode cX6_step 44 = .ok (.ifCond .ge 6, 3) := by decide +kernel
theorem dX6_step_47 : decode cX6_step 47 = .ok (.bipush (-3), 2) := by decide +kernel
theorem dX6_step_49 : decode cX6_step 49 = .ok (.ireturn, 1) := by decide +kernel
theorem dX6_step_50 : decode cX6_step 50 = .ok (.aload_n 0, 1) := by decide +kernel
theorem dX6_step_51 : decode cX6_step 51 = .ok (.getfield 19, 3) := by decide +kernel
theorem dX6_step_54 : decode cX6_step 54 = .ok (.aload_n 0, 1) := by decide +kernel
theorem dX6_step_55 : decode cX6_step 55 = .ok (.getfield 12, 3) := by decide +kernel
theorem dX6_step_58 : decode cX6_step 58 = .ok (.iload 4, 2) := by decide +kernel
theorem dX6_step_60 : decode cX6_step 60 = .ok (.invokevirtual 102, 3) := by decide +kernel
theorem dX6_step_63 : decode cX6_step 63 = .ok (.ifCond .ne 6, 3) := by decide +kernel
theorem dX6_step_66 : decode cX6_step 66 = .ok (.bipush (-4), 2) := by decide +kernel
theorem dX6_step_68 : decode cX6_step 68 = .ok (.ireturn, 1) := by decide +kernel
theorem dX6_step_69 : decode cX6_step 69 = .ok (.aload_n 0, 1) := by decide +kernel
theorem dX6_step_70 : decode cX6_step 70 = .ok (.getfield 19, 3) := by decide +kernel
theorem dX6_step_73 : decode cX6_step 73 = .ok (.aload_n 0, 1) := by decide +kernel
theorem dX6_step_74 : decode cX6_step 74 = .ok (.getfield 12, 3) := by decide +kernel
theorem dX6_step_77 : decode cX6_step 77 = .ok (.iload 4, 2) := by decide +kernel
theorem dX6_step_79 : decode cX6_step 79 = .ok (.invokevirtual 106, 3) := by decide +kernel
theorem dX6_step_82 : decode cX6_step 82 = .ok (.iload 4, 2) := by decide +kernel
theorem dX6_step_84 : decode cX6_step 84 = .ok (.ireturn, 1) := by decide +kernel
theorem dX6_run_0 : decode cX6_run 0 = .ok (.aload_n 0, 1) := by decide +kernel
theorem dX6_run_1 : decode cX6_run 1 = .ok (.iload_n 1, 1) := by decide +kernel
theorem dX6_run_2 : decode cX6_run 2 = .ok (.invokevirtual 112, 3) := by decide +kernel
theorem dX6_run_5 : decode cX6_run 5 = .ok (.ifCond .eq 14, 3) := by decide +kernel
theorem dX6_run_8 : decode cX6_run 8 = .ok (.iload_n 2, 1) := by decide +kernel
theorem dX6_run_9 : decode cX6_run 9 = .ok (.ifCond .lt 10, 3) := by decide +kernel
theorem dX6_run_12 : decode cX6_run 12 = .ok (.iload_n 2, 1) := by decide +kernel
theorem dX6_run_13 : decode cX6_run 13 = .ok (.sipush 2000, 3) := by decide +kernel
theorem dX6_run_16 : decode cX6_run 16 = .ok (.if_icmp .le 6, 3) := by decide +kernel
theorem dX6_run_19 : decode cX6_run 19 = .ok (.bipush (-2), 2) := by decide +kernel
theorem dX6_run_21 : decode cX6_run 21 = .ok (.ireturn, 1) := by decide +kernel
theorem dX6_run_22 : decode cX6_run 22 = .ok (.aload_n 0, 1) := by decide +kernel
theorem dX6_run_23 : decode cX6_run 23 = .ok (.iload_n 1, 1) := by decide +kernel
theorem dX6_run_24 : decode cX6_run 24 = .ok (.invokevirtual 139, 3) := by decide +kernel
theorem dX6_run_27 : decode cX6_run 27 = .ok (.lstore_n 3, 1) := by decide +kernel
theorem dX6_run_28 : decode cX6_run 28 = .ok (.lload_n 3, 1) := by decide +kernel
theorem dX6_run_29 : decode cX6_run 29 = .ok (.ldc2_w 147, 3) := by decide +kernel
theorem dX6_run_32 : decode cX6_run 32 = .ok (.lcmp, 1) := by decide +kernel
theorem dX6_run_33 : decode cX6_run 33 = .ok (.ifCond .lt 6, 3) := by decide +kernel
theorem dX6_run_36 : decode cX6_run 36 = .ok (.bipush (-3), 2) := by decide +kernel
theorem dX6_run_38 : decode cX6_run 38 = .ok (.ireturn, 1) := by decide +kernel
theorem dX6_run_39 : decode cX6_run 39 = .ok (.iconst 0, 1) := by decide +kernel
theorem dX6_run_40 : decode cX6_run 40 = .ok (.istore 5, 2) := by decide +kernel
theorem dX6_run_42 : decode cX6_run 42 = .ok (.iload 5, 2) := by decide +kernel
theorem dX6_run_44 : decode cX6_run 44 = .ok (.iload_n 2, 1) := by decide +kernel
theorem dX6_run_45 : decode cX6_run 45 = .ok (.if_icmp .ge 101, 3) := by decide +kernel
theorem dX6_run_48 : decode cX6_run 48 = .ok (.lload_n 3, 1) := by decide +kernel
theorem dX6_run_49 : decode cX6_run 49 = .ok (.iload 5, 2) := by decide +kernel
theorem dX6_run_51 : decode cX6_run 51 = .ok (.i2l, 1) := by decide +kernel
theorem dX6_run_52 : decode cX6_run 52 = .ok (.lcmp, 1) := by decide +kernel
theorem dX6_run_53 : decode cX6_run 53 = .ok (.ifCond .le 16, 3) := by decide +kernel
theorem dX6_run_56 : decode cX6_run 56 = .ok (.aload_n 0, 1) := by decide +kernel
theorem dX6_run_57 : decode cX6_run 57 = .ok (.iload_n 1, 1) := by decide +kernel
theorem dX6_run_58 : decode cX6_run 58 = .ok (.lload_n 3, 1) := by decide +kernel
theorem dX6_run_59 : decode cX6_run 59 = .ok (.iload 5, 2) := by decide +kernel
theorem dX6_run_61 : decode cX6_run 61 = .ok (.i2l, 1) := by decide +kernel
theorem dX6_run_62 : decode cX6_run 62 = .ok (.lsub, 1) := by decide +kernel
theorem dX6_run_63 : decode cX6_run 63 = .ok (.invokevirtual 149, 3) := by decide +kernel
theorem dX6_run_66 : decode cX6_run 66 = .ok (.goto 5, 3) := by decide +kernel
theorem dX6_run_69 : decode cX6_run 69 = .ok (.bipush (-3), 2) := by decide +kernel
theorem dX6_run_71 : decode cX6_run 71 = .ok (.istore 6, 2) := by decide +kernel
theorem dX6_run_73 : decode cX6_run 73 = .ok (.iload 6, 2) := by decide +kernel
theorem dX6_run_75 : decode cX6_run 75 = .ok (.ifCond .lt 19, 3) := by decide +kernel
theorem dX6_run_78 : decode cX6_run 78 = .ok (.aload_n 0, 1) := by decide +kernel
theorem dX6_run_79 : decode cX6_run 79 = .ok (.getfield 19, 3) := by decide +kernel
theorem dX6_run_82 : decode cX6_run 82 = .ok (.aload_n 0, 1) := by decide +kernel
theorem dX6_run_83 : decode cX6_run 83 = .ok (.getfield 12, 3) := by decide +kernel
theorem dX6_run_86 : decode cX6_run 86 = .ok (.iload 6, 2) := by decide +kernel
theorem dX6_run_88 : decode cX6_run 88 = .ok (.invokevirtual 102, 3) := by decide +kernel
theorem dX6_run_91 : decode cX6_run 91 = .ok (.ifCond .ne 6, 3) := by decide +kernel
theorem dX6_run_94 : decode cX6_run 94 = .ok (.iload 5, 2) := by decide +kernel
theorem dX6_run_96 : decode cX6_run 96 = .ok (.ireturn, 1) := by decide +kernel
theorem dX6_run_97 : decode cX6_run 97 = .ok (.aload_n 0, 1) := by decide +kernel
theorem dX6_run_98 : decode cX6_run 98 = .ok (.getfield 19, 3) := by decide +kernel
theorem dX6_run_101 : decode cX6_run 101 = .ok (.getfield 84, 3) := by decide +kernel
theorem dX6_run_104 : decode cX6_run 104 = .ok (.iconst 1, 1) := by decide +kernel
theorem dX6_run_105 : decode cX6_run 105 = .ok (.isub, 1) := by decide +kernel
theorem dX6_run_106 : decode cX6_run 106 = .ok (.istore 7, 2) := by decide +kernel
theorem dX6_run_108 : decode cX6_run 108 = .ok (.aload_n 0, 1) := by decide +kernel
theorem dX6_run_109 : decode cX6_run 109 = .ok (.getfield 19, 3) := by decide +kernel
theorem dX6_run_112 : decode cX6_run 112 = .ok (.aload_n 0, 1) := by decide +kernel
theorem dX6_run_113 : decode cX6_run 113 = .ok (.getfield 12, 3) := by decide +kernel
theorem dX6_run_116 : decode cX6_run 116 = .ok (.iload 6, 2) := by decide +kernel
theorem dX6_run_118 : decode cX6_run 118 = .ok (.invokevirtual 106, 3) := by decide +kernel
theorem dX6_run_121 : decode cX6_run 121 = .ok (.aload_n 0, 1) := by decide +kernel
theorem dX6_run_122 : decode cX6_run 122 = .ok (.getfield 46, 3) := by decide +kernel
theorem dX6_run_125 : decode cX6_run 125 = .ok (.aload_n 0, 1) := by decide +kernel
theorem dX6_run_126 : decode cX6_run 126 = .ok (.getfield 25, 3) := by decide +kernel
theorem dX6_run_129 : decode cX6_run 129 = .ok (.iload_n 1, 1) := by decide +kernel
theorem dX6_run_130 : decode cX6_run 130 = .ok (.aaload, 1) := by decide +kernel
theorem dX6_run_131 : decode cX6_run 131 = .ok (.aload_n 0, 1) := by decide +kernel
theorem dX6_run_132 : decode cX6_run 132 = .ok (.getfield 19, 3) := by decide +kernel
theorem dX6_run_135 : decode cX6_run 135 = .ok (.iload 7, 2) := by decide +kernel
theorem dX6_run_137 : decode cX6_run 137 = .ok (.invokevirtual 153, 3) := by decide +kernel
theorem dX6_run_140 : decode cX6_run 140 = .ok (.iinc 5 1, 3) := by decide +kernel
theorem dX6_run_143 : decode cX6_run 143 = .ok (.goto (-101), 3) := by decide +kernel
theorem dX6_run_146 : decode cX6_run 146 = .ok (.iload_n 2, 1) := by decide +kernel
theorem dX6_run_147 : decode cX6_run 147 = .ok (.ireturn, 1) := by decide +kernel
theorem dX6_pop_0 : decode cX6_pop 0 = .ok (.aload_n 0, 1) := by decide +kernel
theorem dX6_pop_1 : decode cX6_pop 1 = .ok (.getfield 12, 3) := by decide +kernel
theorem dX6_pop_4 : decode cX6_pop 4 = .ok (.iload_n 1, 1) := by decide +kernel
theorem dX6_pop_5 : decode cX6_pop 5 = .ok (.invokevirtual 65, 3) := by decide +kernel
theorem dX6_pop_8 : decode cX6_pop 8 = .ok (.ifCond .eq 25, 3) := by decide +kernel
theorem dX6_pop_11 : decode cX6_pop 11 = .ok (.aload_n 0, 1) := by decide +kernel
theorem dX6_pop_12 : decode cX6_pop 12 = .ok (.getfield 12, 3) := by decide +kernel
theorem dX6_pop_15 : decode cX6_pop 15 = .ok (.iload_n 2, 1) := by decide +kernel
theorem dX6_pop_16 : decode cX6_pop 16 = .ok (.invokevirtual 69, 3) := by decide +kernel
theorem dX6_pop_19 : decode cX6_pop 19 = .ok (.ifCond .eq 14, 3) := by decide +kernel
theorem dX6_pop_22 : decode cX6_pop 22 = .ok (.aload_n 0, 1) := by decide +kernel
theorem dX6_pop_23 : decode cX6_pop 23 = .ok (.getfield 12, 3) := by decide +kernel
theorem dX6_pop_26 : decode cX6_pop 26 = .ok (.iload_n 3, 1) := by decide +kernel
theorem dX6_pop_27 : decode cX6_pop 27 = .ok (.invokevirtual 65, 3) := by decide +kernel
theorem dX6_pop_30 : decode cX6_pop 30 = .ok (.ifCond .ne 7, 3) := by decide +kernel
theorem dX6_pop_33 : decode cX6_pop 33 = .ok (.ldc2_w 137, 3) := by decide +kernel
theorem dX6_pop_36 : decode cX6_pop 36 = .ok (.lreturn, 1) := by decide +kernel
theorem dX6_pop_37 : decode cX6_pop 37 = .ok (.aload_n 0, 1) := by decide +kernel
theorem dX6_pop_38 : decode cX6_pop 38 = .ok (.getfield 32, 3) := by decide +kernel
theorem dX6_pop_41 : decode cX6_pop 41 = .ok (.aload_n 0, 1) := by decide +kernel
theorem dX6_pop_42 : decode cX6_pop 42 = .ok (.getfield 12, 3) := by decide +kernel
theorem dX6_pop_45 : decode cX6_pop 45 = .ok (.invokevirtual 157, 3) := by decide +kernel
theorem dX6_pop_48 : decode cX6_pop 48 = .ok (.aload_n 0, 1) := by decide +kernel
theorem dX6_pop_49 : decode cX6_pop 49 = .ok (.getfield 32, 3) := by decide +kernel
theorem dX6_pop_52 : decode cX6_pop 52 = .ok (.getfield 161, 3) := by decide +kernel
theorem dX6_pop_55 : decode cX6_pop 55 = .ok (.iload_n 1, 1) := by decide +kernel
theorem dX6_pop_56 : decode cX6_pop 56 = .ok (.iload_n 2, 1) := by decide +kernel
theorem dX6_pop_57 : decode cX6_pop 57 = .ok (.invokestatic 72, 3) := by decide +kernel
theorem dX6_pop_60 : decode cX6_pop 60 = .ok (.iconst 5, 1) := by decide +kernel
theorem dX6_pop_61 : decode cX6_pop 61 = .ok (.imul, 1) := by decide +kernel
theorem dX6_pop_62 : decode cX6_pop 62 = .ok (.iload_n 3, 1) := by decide +kernel
theorem dX6_pop_63 : decode cX6_pop 63 = .ok (.iadd, 1) := by decide +kernel
theorem dX6_pop_64 : decode cX6_pop 64 = .ok (.laload, 1) := by decide +kernel
theorem dX6_pop_65 : decode cX6_pop 65 = .ok (.invokestatic 143, 3) := by decide +kernel
theorem dX6_pop_68 : decode cX6_pop 68 = .ok (.lreturn, 1) := by decide +kernel
theorem dX6_endless_0 : decode cX6_endless 0 = .ok (.aload_n 0, 1) := by decide +kernel
theorem dX6_endless_1 : decode cX6_endless 1 = .ok (.getfield 32, 3) := by decide +kernel
theorem dX6_endless_4 : decode cX6_endless 4 = .ok (.aload_n 0, 1) := by decide +kernel
theorem dX6_endless_5 : decode cX6_endless 5 = .ok (.getfield 12, 3) := by decide +kernel
theorem dX6_endless_8 : decode cX6_endless 8 = .ok (.invokevirtual 157, 3) := by decide +kernel
theorem dX6_endless_11 : decode cX6_endless 11 = .ok (.aload_n 0, 1) := by decide +kernel
theorem dX6_endless_12 : decode cX6_endless 12 = .ok (.getfield 39, 3) := by decide +kernel
theorem dX6_endless_15 : decode cX6_endless 15 = .ok (.aload_n 0, 1) := by decide +kernel
theorem dX6_endless_16 : decode cX6_endless 16 = .ok (.getfield 12, 3) := by decide +kernel
theorem dX6_endless_19 : decode cX6_endless 19 = .ok (.aload_n 0, 1) := by decide +kernel
theorem dX6_endless_20 : decode cX6_endless 20 = .ok (.getfield 32, 3) := by decide +kernel
theorem dX6_endless_23 : decode cX6_endless 23 = .ok (.invokevirtual 165, 3) := by decide +kernel
theorem dX6_endless_26 : decode cX6_endless 26 = .ok (.aload_n 0, 1) := by decide +kernel
theorem dX6_endless_27 : decode cX6_endless 27 = .ok (.getfield 39, 3) := by decide +kernel
theorem dX6_endless_30 : decode cX6_endless 30 = .ok (.aload_n 0, 1) := by decide +kernel
theorem dX6_endless_31 : decode cX6_endless 31 = .ok (.getfield 19, 3) := by decide +kernel
theorem dX6_endless_34 : decode cX6_endless 34 = .ok (.invokevirtual 168, 3) := by decide +kernel
theorem dX6_endless_37 : decode cX6_endless 37 = .ok (.ifCond .eq 7, 3) := by decide +kernel
theorem dX6_endless_40 : decode cX6_endless 40 = .ok (.iconst 1, 1) := by decide +kernel
theorem dX6_endless_41 : decode cX6_endless 41 = .ok (.goto 4, 3) := by decide +kernel
theorem dX6_endless_44 : decode cX6_endless 44 = .ok (.iconst 0, 1) := by decide +kernel
theorem dX6_endless_45 : decode cX6_endless 45 = .ok (.ireturn, 1) := by decide +kernel
theorem dX6_high_0 : decode cX6_high 0 = .ok (.aload_n 0, 1) := by decide +kernel
theorem dX6_high_1 : decode cX6_high 1 = .ok (.getfield 32, 3) := by decide +kernel
theorem dX6_high_4 : decode cX6_high 4 = .ok (.aload_n 0, 1) := by decide +kernel
theorem dX6_high_5 : decode cX6_high 5 = .ok (.getfield 12, 3) := by decide +kernel
theorem dX6_high_8 : decode cX6_high 8 = .ok (.invokevirtual 157, 3) := by decide +kernel
theorem dX6_high_11 : decode cX6_high 11 = .ok (.aload_n 0, 1) := by decide +kernel
theorem dX6_high_12 : decode cX6_high 12 = .ok (.getfield 39, 3) := by decide +kernel
theorem dX6_high_15 : decode cX6_high 15 = .ok (.aload_n 0, 1) := by decide +kernel
theorem dX6_high_16 : decode cX6_high 16 = .ok (.getfield 12, 3) := by decide +kernel
theorem dX6_high_19 : decode cX6_high 19 = .ok (.aload_n 0, 1) := by decide +kernel
theorem dX6_high_20 : decode cX6_high 20 = .ok (.getfield 32, 3) := by decide +kernel
theorem dX6_high_23 : decode cX6_high 23 = .ok (.invokevirtual 165, 3) := by decide +kernel
theorem dX6_high_26 : decode cX6_high 26 = .ok (.aload_n 0, 1) := by decide +kernel
theorem dX6_high_27 : decode cX6_high 27 = .ok (.getfield 39, 3) := by decide +kernel
theorem dX6_high_30 : decode cX6_high 30 = .ok (.aload_n 0, 1) := by decide +kernel
theorem dX6_high_31 : decode cX6_high 31 = .ok (.getfield 19, 3) := by decide +kernel
theorem dX6_high_34 : decode cX6_high 34 = .ok (.invokevirtual 171, 3) := by decide +kernel
theorem dX6_high_37 : decode cX6_high 37 = .ok (.ireturn, 1) := by decide +kernel
theorem dX6_count_0 : decode cX6_count 0 = .ok (.iload_n 1, 1) := by decide +kernel
theorem dX6_count_1 : decode cX6_count 1 = .ok (.tableswitch 91 0 5 #[39, 47, 55, 63, 68, 76], 39) := by decide +kernel
theorem dX6_count_40 : decode cX6_count 40 = .ok (.aload_n 0, 1) := by decide +kernel
theorem dX6_count_41 : decode cX6_count 41 = .ok (.getfield 12, 3) := by decide +kernel
theorem dX6_count_44 : decode cX6_count 44 = .ok (.getfield 175, 3) := by decide +kernel
theorem dX6_count_47 : decode cX6_count 47 = .ok (.ireturn, 1) := by decide +kernel
theorem dX6_count_48 : decode cX6_count 48 = .ok (.aload_n 0, 1) := by decide +kernel
theorem dX6_count_49 : decode cX6_count 49 = .ok (.getfield 12, 3) := by decide +kernel
theorem dX6_count_52 : decode cX6_count 52 = .ok (.getfield 178, 3) := by decide +kernel
theorem dX6_count_55 : decode cX6_count 55 = .ok (.ireturn, 1) := by decide +kernel
theorem dX6_count_56 : decode cX6_count 56 = .ok (.aload_n 0, 1) := by decide +kernel
theorem dX6_count_57 : decode cX6_count 57 = .ok (.getfield 12, 3) := by decide +kernel
theorem dX6_count_60 : decode cX6_count 60 = .ok (.getfield 55, 3) := by decide +kernel
theorem dX6_count_63 : decode cX6_count 63 = .ok (.ireturn, 1) := by decide +kernel
theorem dX6_count_64 : decode cX6_count 64 = .ok (.aload_n 0, 1) := by decide +kernel
theorem dX6_count_65 : decode cX6_count 65 = .ok (.getfield 50, 3) := by decide +kernel
theorem dX6_count_68 : decode cX6_count 68 = .ok (.ireturn, 1) := by decide +kernel
theorem dX6_count_69 : decode cX6_count 69 = .ok (.aload_n 0, 1) := by decide +kernel
theorem dX6_count_70 : decode cX6_count 70 = .ok (.getfield 19, 3) := by decide +kernel
theorem dX6_count_73 : decode cX6_count 73 = .ok (.getfield 84, 3) := by decide +kernel
theorem dX6_count_76 : decode cX6_count 76 = .ok (.ireturn, 1) := by decide +kernel
theorem dX6_count_77 : decode cX6_count 77 = .ok (.aload_n 0, 1) := by decide +kernel
theorem dX6_count_78 : decode cX6_count 78 = .ok (.getfield 12, 3) := by decide +kernel
theorem dX6_count_81 : decode cX6_count 81 = .ok (.aload_n 0, 1) := by decide +kernel
theorem dX6_count_82 : decode cX6_count 82 = .ok (.getfield 19, 3) := by decide +kernel
theorem dX6_count_85 : decode cX6_count 85 = .ok (.invokevirtual 100, 3) := by decide +kernel
theorem dX6_count_88 : decode cX6_count 88 = .ok (.invokevirtual 181, 3) := by decide +kernel
theorem dX6_count_91 : decode cX6_count 91 = .ok (.ireturn, 1) := by decide +kernel
theorem dX6_count_92 : decode cX6_count 92 = .ok (.bipush (-2), 2) := by decide +kernel
theorem dX6_count_94 : decode cX6_count 94 = .ok (.ireturn, 1) := by decide +kernel
theorem dX6_isSet_0 : decode cX6_isSet 0 = .ok (.iload_n 1, 1) := by decide +kernel
theorem dX6_isSet_1 : decode cX6_isSet 1 = .ok (.ifCond .lt 15, 3) := by decide +kernel
theorem dX6_isSet_4 : decode cX6_isSet 4 = .ok (.iload_n 1, 1) := by decide +kernel
theorem dX6_isSet_5 : decode cX6_isSet 5 = .ok (.aload_n 0, 1) := by decide +kernel
theorem dX6_isSet_6 : decode cX6_isSet 6 = .ok (.getfield 50, 3) := by decide +kernel
theorem dX6_isSet_9 : decode cX6_isSet 9 = .ok (.if_icmp .ge 7, 3) := by decide +kernel
theorem dX6_isSet_12 : decode cX6_isSet 12 = .ok (.iconst 1, 1) := by decide +kernel
theorem dX6_isSet_13 : decode cX6_isSet 13 = .ok (.goto 4, 3) := by decide +kernel
theorem dX6_isSet_16 : decode cX6_isSet 16 = .ok (.iconst 0, 1) := by decide +kernel
theorem dX6_isSet_17 : decode cX6_isSet 17 = .ok (.ireturn, 1) := by decide +kernel
theorem dX6_isPlace_0 : decode cX6_isPlace 0 = .ok (.iload_n 1, 1) := by decide +kernel
theorem dX6_isPlace_1 : decode cX6_isPlace 1 = .ok (.ifCond .ne 14, 3) := by decide +kernel
theorem dX6_isPlace_4 : decode cX6_isPlace 4 = .ok (.aload_n 0, 1) := by decide +kernel
theorem dX6_isPlace_5 : decode cX6_isPlace 5 = .ok (.getfield 12, 3) := by decide +kernel
theorem dX6_isPlace_8 : decode cX6_isPlace 8 = .ok (.iload_n 2, 1) := by decide +kernel
theorem dX6_isPlace_9 : decode cX6_isPlace 9 = .ok (.invokevirtual 65, 3) := by decide +kernel
theorem dX6_isPlace_12 : decode cX6_isPlace 12 = .ok (.goto 23, 3) := by decide +kernel
theorem dX6_isPlace_15 : decode cX6_isPlace 15 = .ok (.iload_n 1, 1) := by decide +kernel
theorem dX6_isPlace_16 : decode cX6_isPlace 16 = .ok (.iconst 1, 1) := by decide +kernel
theorem dX6_isPlace_17 : decode cX6_isPlace 17 = .ok (.if_icmp .ne 17, 3) := by decide +kernel
theorem dX6_isPlace_20 : decode cX6_isPlace 20 = .ok (.iload_n 2, 1) := by decide +kernel
theorem dX6_isPlace_21 : decode cX6_isPlace 21 = .ok (.ifCond .lt 13, 3) := by decide +kernel
theorem dX6_isPlace_24 : decode cX6_isPlace 24 = .ok (.iload_n 2, 1) := by decide +kernel
theorem dX6_isPlace_25 : decode cX6_isPlace 25 = .ok (.bipush 6, 2) := by decide +kernel
theorem dX6_isPlace_27 : decode cX6_isPlace 27 = .ok (.if_icmp .ge 7, 3) := by decide +kernel
theorem dX6_isPlace_30 : decode cX6_isPlace 30 = .ok (.iconst 1, 1) := by decide +kernel
theorem dX6_isPlace_31 : decode cX6_isPlace 31 = .ok (.goto 4, 3) := by decide +kernel
theorem dX6_isPlace_34 : decode cX6_isPlace 34 = .ok (.iconst 0, 1) := by decide +kernel
theorem dX6_isPlace_35 : decode cX6_isPlace 35 = .ok (.ireturn, 1) := by decide +kernel
theorem dX6_placeOf_0 : decode cX6_placeOf 0 = .ok (.iload_n 0, 1) := by decide +kernel
theorem dX6_placeOf_1 : decode cX6_placeOf 1 = .ok (.ifCond .ne 7, 3) := by decide +kernel
theorem dX6_placeOf_4 : decode cX6_placeOf 4 = .ok (.iload_n 1, 1) := by decide +kernel
theorem dX6_placeOf_5 : decode cX6_placeOf 5 = .ok (.goto 6, 3) := by decide +kernel
theorem dX6_placeOf_8 : decode cX6_placeOf 8 = .ok (.iconst 5, 1) := by decide +kernel
theorem dX6_placeOf_9 : decode cX6_placeOf 9 = .ok (.iload_n 1, 1) := by decide +kernel
theorem dX6_placeOf_10 : decode cX6_placeOf 10 = .ok (.iadd, 1) := by decide +kernel
theorem dX6_placeOf_11 : decode cX6_placeOf 11 = .ok (.ireturn, 1) := by decide +kernel
theorem dX6_headOf_0 : decode cX6_headOf 0 = .ok (.iload_n 0, 1) := by decide +kernel
theorem dX6_headOf_1 : decode cX6_headOf 1 = .ok (.iconst 5, 1) := by decide +kernel
theorem dX6_headOf_2 : decode cX6_headOf 2 = .ok (.imul, 1) := by decide +kernel
theorem dX6_headOf_3 : decode cX6_headOf 3 = .ok (.iload_n 1, 1) := by decide +kernel
theorem dX6_headOf_4 : decode cX6_headOf 4 = .ok (.iadd, 1) := by decide +kernel
theorem dX6_headOf_5 : decode cX6_headOf 5 = .ok (.ireturn, 1) := by decide +kernel
theorem dX6_told_0 : decode cX6_told 0 = .ok (.lload_n 0, 1) := by decide +kernel
theorem dX6_told_1 : decode cX6_told 1 = .ok (.ldc2_w 185, 3) := by decide +kernel
theorem dX6_told_4 : decode cX6_told 4 = .ok (.lcmp, 1) := by decide +kernel
theorem dX6_told_5 : decode cX6_told 5 = .ok (.ifCond .ne 9, 3) := by decide +kernel
theorem dX6_told_8 : decode cX6_told 8 = .ok (.ldc2_w 187, 3) := by decide +kernel
theorem dX6_told_11 : decode cX6_told 11 = .ok (.goto 4, 3) := by decide +kernel
theorem dX6_told_14 : decode cX6_told 14 = .ok (.lload_n 0, 1) := by decide +kernel
theorem dX6_told_15 : decode cX6_told 15 = .ok (.lreturn, 1) := by decide +kernel
theorem dX6_hasBit_0 : decode cX6_hasBit 0 = .ok (.iload_n 0, 1) := by decide +kernel
theorem dX6_hasBit_1 : decode cX6_hasBit 1 = .ok (.iload_n 1, 1) := by decide +kernel
theorem dX6_hasBit_2 : decode cX6_hasBit 2 = .ok (.ishr, 1) := by decide +kernel
theorem dX6_hasBit_3 : decode cX6_hasBit 3 = .ok (.iconst 1, 1) := by decide +kernel
theorem dX6_hasBit_4 : decode cX6_hasBit 4 = .ok (.iand, 1) := by decide +kernel
theorem dX6_hasBit_5 : decode cX6_hasBit 5 = .ok (.ifCond .eq 7, 3) := by decide +kernel
theorem dX6_hasBit_8 : decode cX6_hasBit 8 = .ok (.iconst 1, 1) := by decide +kernel
theorem dX6_hasBit_9 : decode cX6_hasBit 9 = .ok (.goto 4, 3) := by decide +kernel
theorem dX6_hasBit_12 : decode cX6_hasBit 12 = .ok (.iconst 0, 1) := by decide +kernel
theorem dX6_hasBit_13 : decode cX6_hasBit 13 = .ok (.ireturn, 1) := by decide +kernel
theorem dX6_sum_0 : decode cX6_sum 0 = .ok (.lload_n 0, 1) := by decide +kernel
theorem dX6_sum_1 : decode cX6_sum 1 = .ok (.ldc2_w 185, 3) := by decide +kernel
theorem dX6_sum_4 : decode cX6_sum 4 = .ok (.lcmp, 1) := by decide +kernel
theorem dX6_sum_5 : decode cX6_sum 5 = .ok (.ifCond .eq 11, 3) := by decide +kernel
theorem dX6_sum_8 : decode cX6_sum 8 = .ok (.lload_n 2, 1) := by decide +kernel
theorem dX6_sum_9 : decode cX6_sum 9 = .ok (.ldc2_w 185, 3) := by decide +kernel
theorem dX6_sum_12 : decode cX6_sum 12 = .ok (.lcmp, 1) := by decide +kernel
theorem dX6_sum_13 : decode cX6_sum 13 = .ok (.ifCond .ne 7, 3) := by decide +kernel
theorem dX6_sum_16 : decode cX6_sum 16 = .ok (.ldc2_w 185, 3) := by decide +kernel
theorem dX6_sum_19 : decode cX6_sum 19 = .ok (.lreturn, 1) := by decide +kernel
theorem dX6_sum_20 : decode cX6_sum 20 = .ok (.ldc2_w 147, 3) := by decide +kernel
theorem dX6_sum_23 : decode cX6_sum 23 = .ok (.lload_n 0, 1) := by decide +kernel
theorem dX6_sum_24 : decode cX6_sum 24 = .ok (.lload_n 2, 1) := by decide +kernel
theorem dX6_sum_25 : decode cX6_sum 25 = .ok (.ladd, 1) := by decide +kernel
theorem dX6_sum_26 : decode cX6_sum 26 = .ok (.invokestatic 189, 3) := by decide +kernel
theorem dX6_sum_29 : decode cX6_sum 29 = .ok (.lreturn, 1) := by decide +kernel
theorem dX6_distance_0 : decode cX6_distance 0 = .ok (.aload_n 0, 1) := by decide +kernel
theorem dX6_distance_1 : decode cX6_distance 1 = .ok (.getfield 25, 3) := by decide +kernel
theorem dX6_distance_4 : decode cX6_distance 4 = .ok (.iload_n 1, 1) := by decide +kernel
theorem dX6_distance_5 : decode cX6_distance 5 = .ok (.aaload, 1) := by decide +kernel
theorem dX6_distance_6 : decode cX6_distance 6 = .ok (.astore_n 2, 1) := by decide +kernel
theorem dX6_distance_7 : decode cX6_distance 7 = .ok (.aload_n 0, 1) := by decide +kernel
theorem dX6_distance_8 : decode cX6_distance 8 = .ok (.getfield 32, 3) := by decide +kernel
theorem dX6_distance_11 : decode cX6_distance 11 = .ok (.aload_n 0, 1) := by decide +kernel
theorem dX6_distance_12 : decode cX6_distance 12 = .ok (.getfield 12, 3) := by decide +kernel
theorem dX6_distance_15 : decode cX6_distance 15 = .ok (.invokevirtual 157, 3) := by decide +kernel
theorem dX6_distance_18 : decode cX6_distance 18 = .ok (.aload_n 2, 1) := by decide +kernel
theorem dX6_distance_19 : decode cX6_distance 19 = .ok (.aload_n 0, 1) := by decide +kernel
theorem dX6_distance_20 : decode cX6_distance 20 = .ok (.getfield 12, 3) := by decide +kernel
theorem dX6_distance_23 : decode cX6_distance 23 = .ok (.aload_n 0, 1) := by decide +kernel
theorem dX6_distance_24 : decode cX6_distance 24 = .ok (.getfield 32, 3) := by decide +kernel
theorem dX6_distance_27 : decode cX6_distance 27 = .ok (.invokevirtual 195, 3) := by decide +kernel
theorem dX6_distance_30 : decode cX6_distance 30 = .ok (.aload_n 0, 1) := by decide +kernel
theorem dX6_distance_31 : decode cX6_distance 31 = .ok (.getfield 46, 3) := by decide +kernel
theorem dX6_distance_34 : decode cX6_distance 34 = .ok (.aload_n 2, 1) := by decide +kernel
theorem dX6_distance_35 : decode cX6_distance 35 = .ok (.invokevirtual 196, 3) := by decide +kernel
theorem dX6_distance_38 : decode cX6_distance 38 = .ok (.aload_n 0, 1) := by decide +kernel
theorem dX6_distance_39 : decode cX6_distance 39 = .ok (.getfield 46, 3) := by decide +kernel
theorem dX6_distance_42 : decode cX6_distance 42 = .ok (.aload_n 2, 1) := by decide +kernel
theorem dX6_distance_43 : decode cX6_distance 43 = .ok (.aload_n 0, 1) := by decide +kernel
theorem dX6_distance_44 : decode cX6_distance 44 = .ok (.getfield 19, 3) := by decide +kernel
theorem dX6_distance_47 : decode cX6_distance 47 = .ok (.iconst 0, 1) := by decide +kernel
theorem dX6_distance_48 : decode cX6_distance 48 = .ok (.invokevirtual 153, 3) := by decide +kernel
theorem dX6_distance_51 : decode cX6_distance 51 = .ok (.aload_n 0, 1) := by decide +kernel
theorem dX6_distance_52 : decode cX6_distance 52 = .ok (.getfield 46, 3) := by decide +kernel
theorem dX6_distance_55 : decode cX6_distance 55 = .ok (.getfield 200, 3) := by decide +kernel
theorem dX6_distance_58 : decode cX6_distance 58 = .ok (.aload_n 0, 1) := by decide +kernel
theorem dX6_distance_59 : decode cX6_distance 59 = .ok (.getfield 19, 3) := by decide +kernel
theorem dX6_distance_62 : decode cX6_distance 62 = .ok (.getfield 84, 3) := by decide +kernel
theorem dX6_distance_65 : decode cX6_distance 65 = .ok (.bipush 11, 2) := by decide +kernel
theorem dX6_distance_67 : decode cX6_distance 67 = .ok (.imul, 1) := by decide +kernel
theorem dX6_distance_68 : decode cX6_distance 68 = .ok (.aload_n 0, 1) := by decide +kernel
theorem dX6_distance_69 : decode cX6_distance 69 = .ok (.getfield 19, 3) := by decide +kernel
theorem dX6_distance_72 : decode cX6_distance 72 = .ok (.getfield 90, 3) := by decide +kernel
theorem dX6_distance_75 : decode cX6_distance 75 = .ok (.iadd, 1) := by decide +kernel
theorem dX6_distance_76 : decode cX6_distance 76 = .ok (.laload, 1) := by decide +kernel
theorem dX6_distance_77 : decode cX6_distance 77 = .ok (.lreturn, 1) := by decide +kernel
theorem dX6_nearing_0 : decode cX6_nearing 0 = .ok (.aload_n 0, 1) := by decide +kernel
theorem dX6_nearing_1 : decode cX6_nearing 1 = .ok (.getfield 19, 3) := by decide +kernel
theorem dX6_nearing_4 : decode cX6_nearing 4 = .ok (.invokevirtual 100, 3) := by decide +kernel
theorem dX6_nearing_7 : decode cX6_nearing 7 = .ok (.istore 4, 2) := by decide +kernel
theorem dX6_nearing_9 : decode cX6_nearing 9 = .ok (.iconst 0, 1) := by decide +kernel
theorem dX6_nearing_10 : decode cX6_nearing 10 = .ok (.istore 5, 2) := by decide +kernel
theorem dX6_nearing_12 : decode cX6_nearing 12 = .ok (.iload 5, 2) := by decide +kernel
theorem dX6_nearing_14 : decode cX6_nearing 14 = .ok (.aload_n 0, 1) := by decide +kernel
theorem dX6_nearing_15 : decode cX6_nearing 15 = .ok (.getfield 12, 3) := by decide +kernel
theorem dX6_nearing_18 : decode cX6_nearing 18 = .ok (.getfield 55, 3) := by decide +kernel
theorem dX6_nearing_21 : decode cX6_nearing 21 = .ok (.if_icmp .ge 62, 3) := by decide +kernel
theorem dX6_nearing_24 : decode cX6_nearing 24 = .ok (.aload_n 0, 1) := by decide +kernel
theorem dX6_nearing_25 : decode cX6_nearing 25 = .ok (.getfield 12, 3) := by decide +kernel
theorem dX6_nearing_28 : decode cX6_nearing 28 = .ok (.getfield 97, 3) := by decide +kernel
theorem dX6_nearing_31 : decode cX6_nearing 31 = .ok (.iload 5, 2) := by decide +kernel
theorem dX6_nearing_33 : decode cX6_nearing 33 = .ok (.iaload, 1) := by decide +kernel
theorem dX6_nearing_34 : decode cX6_nearing 34 = .ok (.iload 4, 2) := by decide +kernel
theorem dX6_nearing_36 : decode cX6_nearing 36 = .ok (.if_icmp .ne 41, 3) := by decide +kernel
theorem dX6_nearing_39 : decode cX6_nearing 39 = .ok (.aload_n 0, 1) := by decide +kernel
theorem dX6_nearing_40 : decode cX6_nearing 40 = .ok (.getfield 46, 3) := by decide +kernel
theorem dX6_nearing_43 : decode cX6_nearing 43 = .ok (.aload_n 0, 1) := by decide +kernel
theorem dX6_nearing_44 : decode cX6_nearing 44 = .ok (.getfield 25, 3) := by decide +kernel
theorem dX6_nearing_47 : decode cX6_nearing 47 = .ok (.iload_n 1, 1) := by decide +kernel
theorem dX6_nearing_48 : decode cX6_nearing 48 = .ok (.aaload, 1) := by decide +kernel
theorem dX6_nearing_49 : decode cX6_nearing 49 = .ok (.aload_n 0, 1) := by decide +kernel
theorem dX6_nearing_50 : decode cX6_nearing 50 = .ok (.getfield 12, 3) := by decide +kernel
theorem dX6_nearing_53 : decode cX6_nearing 53 = .ok (.iload 5, 2) := by decide +kernel
theorem dX6_nearing_55 : decode cX6_nearing 55 = .ok (.aload_n 0, 1) := by decide +kernel
theorem dX6_nearing_56 : decode cX6_nearing 56 = .ok (.getfield 19, 3) := by decide +kernel
theorem dX6_nearing_59 : decode cX6_nearing 59 = .ok (.getfield 84, 3) := by decide +kernel
theorem dX6_nearing_62 : decode cX6_nearing 62 = .ok (.iconst 1, 1) := by decide +kernel
theorem dX6_nearing_63 : decode cX6_nearing 63 = .ok (.isub, 1) := by decide +kernel
theorem dX6_nearing_64 : decode cX6_nearing 64 = .ok (.invokevirtual 203, 3) := by decide +kernel
theorem dX6_nearing_67 : decode cX6_nearing 67 = .ok (.lload_n 2, 1) := by decide +kernel
theorem dX6_nearing_68 : decode cX6_nearing 68 = .ok (.lconst 1, 1) := by decide +kernel
theorem dX6_nearing_69 : decode cX6_nearing 69 = .ok (.lsub, 1) := by decide +kernel
theorem dX6_nearing_70 : decode cX6_nearing 70 = .ok (.lcmp, 1) := by decide +kernel
theorem dX6_nearing_71 : decode cX6_nearing 71 = .ok (.ifCond .ne 6, 3) := by decide +kernel
theorem dX6_nearing_74 : decode cX6_nearing 74 = .ok (.iload 5, 2) := by decide +kernel
theorem dX6_nearing_76 : decode cX6_nearing 76 = .ok (.ireturn, 1) := by decide +kernel
theorem dX6_nearing_77 : decode cX6_nearing 77 = .ok (.iinc 5 1, 3) := by decide +kernel
theorem dX6_nearing_80 : decode cX6_nearing 80 = .ok (.goto (-68), 3) := by decide +kernel
theorem dX6_nearing_83 : decode cX6_nearing 83 = .ok (.bipush (-3), 2) := by decide +kernel
theorem dX6_nearing_85 : decode cX6_nearing 85 = .ok (.ireturn, 1) := by decide +kernel
