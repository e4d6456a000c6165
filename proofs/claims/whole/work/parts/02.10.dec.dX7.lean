theorem dX7_init_0 : decode cX7_init 0 = .ok (.aload_n 0, 1) := by decide +kernel
theorem dX7_init_1 : decode cX7_init 1 = .ok (.invokespecial 1, 3) := by decide +kernel
theorem dX7_init_4 : decode cX7_init 4 = .ok (.aload_n 0, 1) := by decide +kernel
theorem dX7_init_5 : decode cX7_init 5 = .ok (.iconst 2, 1) := by decide +kernel
theorem dX7_init_6 : decode cX7_init 6 = .ok (.putfield 7, 3) := by decide +kernel
theorem dX7_init_9 : decode cX7_init 9 = .ok (.aload_n 0, 1) := by decide +kernel
theorem dX7_init_10 : decode cX7_init 10 = .ok (.iconst 2, 1) := by decide +kernel
theorem dX7_init_11 : decode cX7_init 11 = .ok (.putfield 13, 3) := by decide +kernel
theorem dX7_init_14 : decode cX7_init 14 = .ok (.aload_n 0, 1) := by decide +kernel
theorem dX7_init_15 : decode cX7_init 15 = .ok (.bipush 30, 2) := by decide +kernel
theorem dX7_init_17 : decode cX7_init 17 = .ok (.newarray .int, 2) := by decide +kernel
theorem dX7_init_19 : decode cX7_init 19 = .ok (.putfield 16, 3) := by decide +kernel
theorem dX7_init_22 : decode cX7_init 22 = .ok (.aload_n 0, 1) := by decide +kernel
theorem dX7_init_23 : decode cX7_init 23 = .ok (.bipush 30, 2) := by decide +kernel
theorem dX7_init_25 : decode cX7_init 25 = .ok (.newarray .int, 2) := by decide +kernel
theorem dX7_init_27 : decode cX7_init 27 = .ok (.putfield 20, 3) := by decide +kernel
theorem dX7_init_30 : decode cX7_init 30 = .ok (.aload_n 0, 1) := by decide +kernel
theorem dX7_init_31 : decode cX7_init 31 = .ok (.bipush 30, 2) := by decide +kernel
theorem dX7_init_33 : decode cX7_init 33 = .ok (.newarray .int, 2) := by decide +kernel
theorem dX7_init_35 : decode cX7_init 35 = .ok (.putfield 23, 3) := by decide +kernel
theorem dX7_init_38 : decode cX7_init 38 = .ok (.aload_n 0, 1) := by decide +kernel
theorem dX7_init_39 : decode cX7_init 39 = .ok (.bipush 30, 2) := by decide +kernel
theorem dX7_init_41 : decode cX7_init 41 = .ok (.newarray .int, 2) := by decide +kernel
theorem dX7_init_43 : decode cX7_init 43 = .ok (.putfield 26, 3) := by decide +kernel
theorem dX7_init_46 : decode cX7_init 46 = .ok (.aload_n 0, 1) := by decide +kernel
theorem dX7_init_47 : decode cX7_init 47 = .ok (.bipush 30, 2) := by decide +kernel
theorem dX7_init_49 : decode cX7_init 49 = .ok (.newarray .int, 2) := by decide +kernel
theorem dX7_init_51 : decode cX7_init 51 = .ok (.putfield 29, 3) := by decide +kernel
theorem dX7_init_54 : decode cX7_init 54 = .ok (.aload_n 0, 1) := by decide +kernel
theorem dX7_init_55 : decode cX7_init 55 = .ok (.bipush 60, 2) := by decide +kernel
theorem dX7_init_57 : decode cX7_init 57 = .ok (.newarray .int, 2) := by decide +kernel
theorem dX7_init_59 : decode cX7_init 59 = .ok (.putfield 32, 3) := by decide +kernel
theorem dX7_init_62 : decode cX7_init 62 = .ok (.aload_n 0, 1) := by decide +kernel
theorem dX7_init_63 : decode cX7_init 63 = .ok (.bipush 6, 2) := by decide +kernel
theorem dX7_init_65 : decode cX7_init 65 = .ok (.newarray .int, 2) := by decide +kernel
theorem dX7_init_67 : decode cX7_init 67 = .ok (.putfield 35, 3) := by decide +kernel
theorem dX7_init_70 : decode cX7_init 70 = .ok (.aload_n 0, 1) := by decide +kernel
theorem dX7_init_71 : decode cX7_init 71 = .ok (.sipush 144, 3) := by decide +kernel
theorem dX7_init_74 : decode cX7_init 74 = .ok (.newarray .int, 2) := by decide +kernel
theorem dX7_init_76 : decode cX7_init 76 = .ok (.putfield 38, 3) := by decide +kernel
theorem dX7_init_79 : decode cX7_init 79 = .ok (.aload_n 0, 1) := by decide +kernel
theorem dX7_init_80 : decode cX7_init 80 = .ok (.sipush 144, 3) := by decide +kernel
theorem dX7_init_83 : decode cX7_init 83 = .ok (.newarray .int, 2) := by decide +kernel
theorem dX7_init_85 : decode cX7_init 85 = .ok (.putfield 41, 3) := by decide +kernel
theorem dX7_init_88 : decode cX7_init 88 = .ok (.aload_n 0, 1) := by decide +kernel
theorem dX7_init_89 : decode cX7_init 89 = .ok (.sipush 144, 3) := by decide +kernel
theorem dX7_init_92 : decode cX7_init 92 = .ok (.newarray .int, 2) := by decide +kernel
theorem dX7_init_94 : decode cX7_init 94 = .ok (.putfield 44, 3) := by decide +kernel
theorem dX7_init_97 : decode cX7_init 97 = .ok (.aload_n 0, 1) := by decide +kernel
theorem dX7_init_98 : decode cX7_init 98 = .ok (.bipush 66, 2) := by decide +kernel
theorem dX7_init_100 : decode cX7_init 100 = .ok (.newarray .boolean, 2) := by decide +kernel
theorem dX7_init_102 : decode cX7_init 102 = .ok (.putfield 47, 3) := by decide +kernel
theorem dX7_init_105 : decode cX7_init 105 = .ok (.aload_n 0, 1) := by decide +kernel
theorem dX7_init_106 : decode cX7_init 106 = .ok (.sipush 275, 3) := by decide +kernel
theorem dX7_init_109 : decode cX7_init 109 = .ok (.newarray .long, 2) := by decide +kernel
theorem dX7_init_111 : decode cX7_init 111 = .ok (.putfield 51, 3) := by decide +kernel
theorem dX7_init_114 : decode cX7_init 114 = .ok (.aload_n 0, 1) := by decide +kernel
theorem dX7_init_115 : decode cX7_init 115 = .ok (.sipush 330, 3) := by decide +kernel
theorem dX7_init_118 : decode cX7_init 118 = .ok (.newarray .boolean, 2) := by decide +kernel
theorem dX7_init_120 : decode cX7_init 120 = .ok (.putfield 55, 3) := by decide +kernel
theorem dX7_init_123 : decode cX7_init 123 = .ok (.aload_n 0, 1) := by decide +kernel
theorem dX7_init_124 : decode cX7_init 124 = .ok (.sipush 275, 3) := by decide +kernel
theorem dX7_init_127 : decode cX7_init 127 = .ok (.newarray .boolean, 2) := by decide +kernel
theorem dX7_init_129 : decode cX7_init 129 = .ok (.putfield 58, 3) := by decide +kernel
theorem dX7_init_132 : decode cX7_init 132 = .ok (.aload_n 0, 1) := by decide +kernel
theorem dX7_init_133 : decode cX7_init 133 = .ok (.sipush 275, 3) := by decide +kernel
theorem dX7_init_136 : decode cX7_init 136 = .ok (.newarray .long, 2) := by decide +kernel
theorem dX7_init_138 : decode cX7_init 138 = .ok (.putfield 61, 3) := by decide +kernel
theorem dX7_init_141 : decode cX7_init 141 = .ok (.aload_n 0, 1) := by decide +kernel
theorem dX7_init_142 : decode cX7_init 142 = .ok (.sipush 671, 3) := by decide +kernel
theorem dX7_init_145 : decode cX7_init 145 = .ok (.newarray .long, 2) := by decide +kernel
theorem dX7_init_147 : decode cX7_init 147 = .ok (.putfield 64, 3) := by decide +kernel
theorem dX7_init_150 : decode cX7_init 150 = .ok (.aload_n 0, 1) := by decide +kernel
theorem dX7_init_151 : decode cX7_init 151 = .ok (.bipush 25, 2) := by decide +kernel
theorem dX7_init_153 : decode cX7_init 153 = .ok (.newarray .int, 2) := by decide +kernel
theorem dX7_init_155 : decode cX7_init 155 = .ok (.putfield 67, 3) := by decide +kernel
theorem dX7_init_158 : decode cX7_init 158 = .ok (.aload_n 0, 1) := by decide +kernel
theorem dX7_init_159 : decode cX7_init 159 = .ok (.bipush 25, 2) := by decide +kernel
theorem dX7_init_161 : decode cX7_init 161 = .ok (.newarray .int, 2) := by decide +kernel
theorem dX7_init_163 : decode cX7_init 163 = .ok (.putfield 70, 3) := by decide +kernel
theorem dX7_init_166 : decode cX7_init 166 = .ok (.return_, 1) := by decide +kernel
theorem dX7_isIn_0 : decode cX7_isIn 0 = .ok (.lload_n 0, 1) := by decide +kernel
theorem dX7_isIn_1 : decode cX7_isIn 1 = .ok (.lload_n 2, 1) := by decide +kernel
theorem dX7_isIn_2 : decode cX7_isIn 2 = .ok (.lcmp, 1) := by decide +kernel
theorem dX7_isIn_3 : decode cX7_isIn 3 = .ok (.ifCond .lt 14, 3) := by decide +kernel
theorem dX7_isIn_6 : decode cX7_isIn 6 = .ok (.lload_n 0, 1) := by decide +kernel
theorem dX7_isIn_7 : decode cX7_isIn 7 = .ok (.lload 4, 2) := by decide +kernel
theorem dX7_isIn_9 : decode cX7_isIn 9 = .ok (.lcmp, 1) := by decide +kernel
theorem dX7_isIn_10 : decode cX7_isIn 10 = .ok (.ifCond .gt 7, 3) := by decide +kernel
theorem dX7_isIn_13 : decode cX7_isIn 13 = .ok (.iconst 1, 1) := by decide +kernel
theorem dX7_isIn_14 : decode cX7_isIn 14 = .ok (.goto 4, 3) := by decide +kernel
theorem dX7_isIn_17 : decode cX7_isIn 17 = .ok (.iconst 0, 1) := by decide +kernel
theorem dX7_isIn_18 : decode cX7_isIn 18 = .ok (.ireturn, 1) := by decide +kernel
theorem dX7_isControl_0 : decode cX7_isControl 0 = .ok (.iload_n 1, 1) := by decide +kernel
theorem dX7_isControl_1 : decode cX7_isControl 1 = .ok (.i2l, 1) := by decide +kernel
theorem dX7_isControl_2 : decode cX7_isControl 2 = .ok (.lconst 0, 1) := by decide +kernel
theorem dX7_isControl_3 : decode cX7_isControl 3 = .ok (.aload_n 0, 1) := by decide +kernel
theorem dX7_isControl_4 : decode cX7_isControl 4 = .ok (.getfield 7, 3) := by decide +kernel
theorem dX7_isControl_7 : decode cX7_isControl 7 = .ok (.iconst 1, 1) := by decide +kernel
theorem dX7_isControl_8 : decode cX7_isControl 8 = .ok (.isub, 1) := by decide +kernel
theorem dX7_isControl_9 : decode cX7_isControl 9 = .ok (.i2l, 1) := by decide +kernel
theorem dX7_isControl_10 : decode cX7_isControl 10 = .ok (.invokestatic 73, 3) := by decide +kernel
theorem dX7_isControl_13 : decode cX7_isControl 13 = .ok (.ireturn, 1) := by decide +kernel
theorem dX7_isSign_0 : decode cX7_isSign 0 = .ok (.iload_n 1, 1) := by decide +kernel
theorem dX7_isSign_1 : decode cX7_isSign 1 = .ok (.i2l, 1) := by decide +kernel
theorem dX7_isSign_2 : decode cX7_isSign 2 = .ok (.lconst 0, 1) := by decide +kernel
theorem dX7_isSign_3 : decode cX7_isSign 3 = .ok (.aload_n 0, 1) := by decide +kernel
theorem dX7_isSign_4 : decode cX7_isSign 4 = .ok (.getfield 13, 3) := by decide +kernel
theorem dX7_isSign_7 : decode cX7_isSign 7 = .ok (.iconst 1, 1) := by decide +kernel
theorem dX7_isSign_8 : decode cX7_isSign 8 = .ok (.isub, 1) := by decide +kernel
theorem dX7_isSign_9 : decode cX7_isSign 9 = .ok (.i2l, 1) := by decide +kernel
theorem dX7_isSign_10 : decode cX7_isSign 10 = .ok (.invokestatic 73, 3) := by decide +kernel
theorem dX7_isSign_13 : decode cX7_isSign 13 = .ok (.ireturn, 1) := by decide +kernel
theorem dX7_machine_0 : decode cX7_machine 0 = .ok (.iload_n 1, 1) := by decide +kernel
theorem dX7_machine_1 : decode cX7_machine 1 = .ok (.i2l, 1) := by decide +kernel
theorem dX7_machine_2 : decode cX7_machine 2 = .ok (.lconst 1, 1) := by decide +kernel
theorem dX7_machine_3 : decode cX7_machine 3 = .ok (.ldc2_w 77, 3) := by decide +kernel
theorem dX7_machine_6 : decode cX7_machine 6 = .ok (.invokestatic 73, 3) := by decide +kernel
theorem dX7_machine_9 : decode cX7_machine 9 = .ok (.ifCond .eq 15, 3) := by decide +kernel
theorem dX7_machine_12 : decode cX7_machine 12 = .ok (.iload_n 2, 1) := by decide +kernel
theorem dX7_machine_13 : decode cX7_machine 13 = .ok (.i2l, 1) := by decide +kernel
theorem dX7_machine_14 : decode cX7_machine 14 = .ok (.lconst 1, 1) := by decide +kernel
theorem dX7_machine_15 : decode cX7_machine 15 = .ok (.ldc2_w 77, 3) := by decide +kernel
theorem dX7_machine_18 : decode cX7_machine 18 = .ok (.invokestatic 73, 3) := by decide +kernel
theorem dX7_machine_21 : decode cX7_machine 21 = .ok (.ifCond .ne 6, 3) := by decide +kernel
theorem dX7_machine_24 : decode cX7_machine 24 = .ok (.bipush (-2), 2) := by decide +kernel
theorem dX7_machine_26 : decode cX7_machine 26 = .ok (.ireturn, 1) := by decide +kernel
theorem dX7_machine_27 : decode cX7_machine 27 = .ok (.aload_n 0, 1) := by decide +kernel
theorem dX7_machine_28 : decode cX7_machine 28 = .ok (.getfield 79, 3) := by decide +kernel
theorem dX7_machine_31 : decode cX7_machine 31 = .ok (.istore_n 3, 1) := by decide +kernel
theorem dX7_machine_32 : decode cX7_machine 32 = .ok (.aload_n 0, 1) := by decide +kernel
theorem dX7_machine_33 : decode cX7_machine 33 = .ok (.iload_n 1, 1) := by decide +kernel
theorem dX7_machine_34 : decode cX7_machine 34 = .ok (.putfield 7, 3) := by decide +kernel
theorem dX7_machine_37 : decode cX7_machine 37 = .ok (.aload_n 0, 1) := by decide +kernel
theorem dX7_machine_38 : decode cX7_machine 38 = .ok (.iload_n 2, 1) := by decide +kernel
theorem dX7_machine_39 : decode cX7_machine 39 = .ok (.putfield 13, 3) := by decide +kernel
theorem dX7_machine_42 : decode cX7_machine 42 = .ok (.aload_n 0, 1) := by decide +kernel
theorem dX7_machine_43 : decode cX7_machine 43 = .ok (.iconst 0, 1) := by decide +kernel
theorem dX7_machine_44 : decode cX7_machine 44 = .ok (.putfield 79, 3) := by decide +kernel
theorem dX7_machine_47 : decode cX7_machine 47 = .ok (.aload_n 0, 1) := by decide +kernel
theorem dX7_machine_48 : decode cX7_machine 48 = .ok (.iconst 0, 1) := by decide +kernel
theorem dX7_machine_49 : decode cX7_machine 49 = .ok (.putfield 82, 3) := by decide +kernel
theorem dX7_machine_52 : decode cX7_machine 52 = .ok (.aload_n 0, 1) := by decide +kernel
theorem dX7_machine_53 : decode cX7_machine 53 = .ok (.iconst 0, 1) := by decide +kernel
theorem dX7_machine_54 : decode cX7_machine 54 = .ok (.putfield 85, 3) := by decide +kernel
theorem dX7_machine_57 : decode cX7_machine 57 = .ok (.aload_n 0, 1) := by decide +kernel
theorem dX7_machine_58 : decode cX7_machine 58 = .ok (.iconst 0, 1) := by decide +kernel
theorem dX7_machine_59 : decode cX7_machine 59 = .ok (.putfield 88, 3) := by decide +kernel
theorem dX7_machine_62 : decode cX7_machine 62 = .ok (.iload_n 3, 1) := by decide +kernel
theorem dX7_machine_63 : decode cX7_machine 63 = .ok (.ireturn, 1) := by decide +kernel
theorem dX7_rule_0 : decode cX7_rule 0 = .ok (.aload_n 0, 1) := by decide +kernel
theorem dX7_rule_1 : decode cX7_rule 1 = .ok (.iload_n 1, 1) := by decide +kernel
theorem dX7_rule_2 : decode cX7_rule 2 = .ok (.invokevirtual 91, 3) := by decide +kernel
theorem dX7_rule_5 : decode cX7_rule 5 = .ok (.ifCond .eq 59, 3) := by decide +kernel
theorem dX7_rule_8 : decode cX7_rule 8 = .ok (.aload_n 0, 1) := by decide +kernel
theorem dX7_rule_9 : decode cX7_rule 9 = .ok (.iload_n 2, 1) := by decide +kernel
theorem dX7_rule_10 : decode cX7_rule 10 = .ok (.invokevirtual 95, 3) := by decide +kernel
theorem dX7_rule_13 : decode cX7_rule 13 = .ok (.ifCond .eq 51, 3) := by decide +kernel
theorem dX7_rule_16 : decode cX7_rule 16 = .ok (.aload_n 0, 1) := by decide +kernel
theorem dX7_rule_17 : decode cX7_rule 17 = .ok (.iload_n 3, 1) := by decide +kernel
theorem dX7_rule_18 : decode cX7_rule 18 = .ok (.invokevirtual 91, 3) := by decide +kernel
theorem dX7_rule_21 : decode cX7_rule 21 = .ok (.ifCond .eq 43, 3) := by decide +kernel
theorem dX7_rule_24 : decode cX7_rule 24 = .ok (.iload 4, 2) := by decide +kernel
theorem dX7_rule_26 : decode cX7_rule 26 = .ok (.iconst (-1), 1) := by decide +kernel
theorem dX7_rule_27 : decode cX7_rule 27 = .ok (.if_icmp .eq 12, 3) := by decide +kernel
theorem dX7_rule_30 : decode cX7_rule 30 = .ok (.aload_n 0, 1) := by decide +kernel
theorem dX7_rule_31 : decode cX7_rule 31 = .ok (.iload 4, 2) := by decide +kernel
theorem dX7_rule_33 : decode cX7_rule 33 = .ok (.invokevirtual 95, 3) := by decide +kernel
theorem dX7_rule_36 : decode cX7_rule 36 = .ok (.ifCond .eq 28, 3) := by decide +kernel
theorem dX7_rule_39 : decode cX7_rule 39 = .ok (.iload 5, 2) := by decide +kernel
theorem dX7_rule_41 : decode cX7_rule 41 = .ok (.iconst (-1), 1) := by decide +kernel
theorem dX7_rule_42 : decode cX7_rule 42 = .ok (.if_icmp .eq 18, 3) := by decide +kernel
theorem dX7_rule_45 : decode cX7_rule 45 = .ok (.iload 4, 2) := by decide +kernel
theorem dX7_rule_47 : decode cX7_rule 47 = .ok (.iconst (-1), 1) := by decide +kernel
theorem dX7_rule_48 : decode cX7_rule 48 = .ok (.if_icmp .eq 16, 3) := by decide +kernel
theorem dX7_rule_51 : decode cX7_rule 51 = .ok (.aload_n 0, 1) := by decide +kernel
theorem dX7_rule_52 : decode cX7_rule 52 = .ok (.iload 5, 2) := by decide +kernel
theorem dX7_rule_54 : decode cX7_rule 54 = .ok (.invokevirtual 95, 3) := by decide +kernel
theorem dX7_rule_57 : decode cX7_rule 57 = .ok (.ifCond .eq 7, 3) := by decide +kernel
theorem dX7_rule_60 : decode cX7_rule 60 = .ok (.iconst 1, 1) := by decide +kernel
theorem dX7_rule_61 : decode cX7_rule 61 = .ok (.goto 4, 3) := by decide +kernel
theorem dX7_rule_64 : decode cX7_rule 64 = .ok (.iconst 0, 1) := by decide +kernel
theorem dX7_rule_65 : decode cX7_rule 65 = .ok (.istore 6, 2) := by decide +kernel
theorem dX7_rule_67 : decode cX7_rule 67 = .ok (.iload 6, 2) := by decide +kernel
theorem dX7_rule_69 : decode cX7_rule 69 = .ok (.ifCond .ne 6, 3) := by decide +kernel
theorem dX7_rule_72 : decode cX7_rule 72 = .ok (.bipush (-2), 2) := by decide +kernel
theorem dX7_rule_74 : decode cX7_rule 74 = .ok (.ireturn, 1) := by decide +kernel
theorem dX7_rule_75 : decode cX7_rule 75 = .ok (.aload_n 0, 1) := by decide +kernel
theorem dX7_rule_76 : decode cX7_rule 76 = .ok (.getfield 79, 3) := by decide +kernel
theorem dX7_rule_79 : decode cX7_rule 79 = .ok (.bipush 30, 2) := by decide +kernel
theorem dX7_rule_81 : decode cX7_rule 81 = .ok (.if_icmp .ne 6, 3) := by decide +kernel
theorem dX7_rule_84 : decode cX7_rule 84 = .ok (.bipush (-4), 2) := by decide +kernel
theorem dX7_rule_86 : decode cX7_rule 86 = .ok (.ireturn, 1) := by decide +kernel
theorem dX7_rule_87 : decode cX7_rule 87 = .ok (.aload_n 0, 1) := by decide +kernel
theorem dX7_rule_88 : decode cX7_rule 88 = .ok (.getfield 16, 3) := by decide +kernel
theorem dX7_rule_91 : decode cX7_rule 91 = .ok (.aload_n 0, 1) := by decide +kernel
theorem dX7_rule_92 : decode cX7_rule 92 = .ok (.getfield 79, 3) := by decide +kernel
theorem dX7_rule_95 : decode cX7_rule 95 = .ok (.iload_n 1, 1) := by decide +kernel
theorem dX7_rule_96 : decode cX7_rule 96 = .ok (.iastore, 1) := by decide +kernel
theorem dX7_rule_97 : decode cX7_rule 97 = .ok (.aload_n 0, 1) := by decide +kernel
theorem dX7_rule_98 : decode cX7_rule 98 = .ok (.getfield 20, 3) := by decide +kernel
theorem dX7_rule_101 : decode cX7_rule 101 = .ok (.aload_n 0, 1) := by decide +kernel
theorem dX7_rule_102 : decode cX7_rule 102 = .ok (.getfield 79, 3) := by decide +kernel
theorem dX7_rule_105 : decode cX7_rule 105 = .ok (.iload_n 2, 1) := by decide +kernel
theorem dX7_rule_106 : decode cX7_rule 106 = .ok (.iastore, 1) := by decide +kernel
theorem dX7_rule_107 : decode cX7_rule 107 = .ok (.aload_n 0, 1) := by decide +kernel
theorem dX7_rule_108 : decode cX7_rule 108 = .ok (.getfield 23, 3) := by decide +kernel
theorem dX7_rule_111 : decode cX7_rule 111 = .ok (.aload_n 0, 1) := by decide +kernel
theorem dX7_rule_112 : decode cX7_rule 112 = .ok (.getfield 79, 3) := by decide +kernel
theorem dX7_rule_115 : decode cX7_rule 115 = .ok (.iload_n 3, 1) := by decide +kernel
theorem dX7_rule_116 : decode cX7_rule 116 = .ok (.iastore, 1) := by decide +kernel
theorem dX7_rule_117 : decode cX7_rule 117 = .ok (.aload_n 0, 1) := by decide +kernel
theorem dX7_rule_118 : decode cX7_rule 118 = .ok (.getfield 26, 3) := by decide +kernel
theorem dX7_rule_121 : decode cX7_rule 121 = .ok (.aload_n 0, 1) := by decide +kernel
theorem dX7_rule_122 : decode cX7_rule 122 = .ok (.getfield 79, 3) := by decide +kernel
theorem dX7_rule_125 : decode cX7_rule 125 = .ok (.iload 4, 2) := by decide +kernel
theorem dX7_rule_127 : decode cX7_rule 127 = .ok (.iastore, 1) := by decide +kernel
theorem dX7_rule_128 : decode cX7_rule 128 = .ok (.aload_n 0, 1) := by decide +kernel
theorem dX7_rule_129 : decode cX7_rule 129 = .ok (.getfield 29, 3) := by decide +kernel
theorem dX7_rule_132 : decode cX7_rule 132 = .ok (.aload_n 0, 1) := by decide +kernel
theorem dX7_rule_133 : decode cX7_rule 133 = .ok (.getfield 79, 3) := by decide +kernel
theorem dX7_rule_136 : decode cX7_rule 136 = .ok (.iload 5, 2) := by decide +kernel
theorem dX7_rule_138 : decode cX7_rule 138 = .ok (.iastore, 1) := by decide +kernel
theorem dX7_rule_139 : decode cX7_rule 139 = .ok (.aload_n 0, 1) := by decide +kernel
theorem dX7_rule_140 : decode cX7_rule 140 = .ok (.dup, 1) := by decide +kernel
theorem dX7_rule_141 : decode cX7_rule 141 = .ok (.getfield 79, 3) := by decide +kernel
theorem dX7_rule_144 : decode cX7_rule 144 = .ok (.iconst 1, 1) := by decide +kernel
theorem dX7_rule_145 : decode cX7_rule 145 = .ok (.iadd, 1) := by decide +kernel
theorem dX7_rule_146 : decode cX7_rule 146 = .ok (.putfield 79, 3) := by decide +kernel
theorem dX7_rule_149 : decode cX7_rule 149 = .ok (.aload_n 0, 1) := by decide +kernel
theorem dX7_rule_150 : decode cX7_rule 150 = .ok (.getfield 79, 3) := by decide +kernel
theorem dX7_rule_153 : decode cX7_rule 153 = .ok (.iconst 1, 1) := by decide +kernel
theorem dX7_rule_154 : decode cX7_rule 154 = .ok (.isub, 1) := by decide +kernel
theorem dX7_rule_155 : decode cX7_rule 155 = .ok (.ireturn, 1) := by decide +kernel
theorem dX7_unrule_0 : decode cX7_unrule 0 = .ok (.aload_n 0, 1) := by decide +kernel
theorem dX7_unrule_1 : decode cX7_unrule 1 = .ok (.getfield 79, 3) := by decide +kernel
theorem dX7_unrule_4 : decode cX7_unrule 4 = .ok (.ifCond .ne 6, 3) := by decide +kernel
theorem dX7_unrule_7 : decode cX7_unrule 7 = .ok (.bipush (-3), 2) := by decide +kernel
theorem dX7_unrule_9 : decode cX7_unrule 9 = .ok (.ireturn, 1) := by decide +kernel
theorem dX7_unrule_10 : decode cX7_unrule 10 = .ok (.aload_n 0, 1) := by decide +kernel
theorem dX7_unrule_11 : decode cX7_unrule 11 = .ok (.dup, 1) := by decide +kernel
theorem dX7_unrule_12 : decode cX7_unrule 12 = .ok (.getfield 79, 3) := by decide +kernel
theorem dX7_unrule_15 : decode cX7_unrule 15 = .ok (.iconst 1, 1) := by decide +kernel
theorem dX7_unrule_16 : decode cX7_unrule 16 = .ok (.isub, 1) := by decide +kernel
theorem dX7_unrule_17 : decode cX7_unrule 17 = .ok (.putfield 79, 3) := by decide +kernel
theorem dX7_unrule_20 : decode cX7_unrule 20 = .ok (.aload_n 0, 1) := by decide +kernel
theorem dX7_unrule_21 : decode cX7_unrule 21 = .ok (.getfield 79, 3) := by decide +kernel
theorem dX7_unrule_24 : decode cX7_unrule 24 = .ok (.ireturn, 1) := by decide +kernel
theorem dX7_stand_0 : decode cX7_stand 0 = .ok (.aload_n 0, 1) := by decide +kernel
theorem dX7_stand_1 : decode cX7_stand 1 = .ok (.iload_n 1, 1) := by decide +kernel
theorem dX7_stand_2 : decode cX7_stand 2 = .ok (.invokevirtual 91, 3) := by decide +kernel
theorem dX7_stand_5 : decode cX7_stand 5 = .ok (.ifCond .ne 6, 3) := by decide +kernel
theorem dX7_stand_8 : decode cX7_stand 8 = .ok (.bipush (-2), 2) := by decide +kernel
theorem dX7_stand_10 : decode cX7_stand 10 = .ok (.ireturn, 1) := by decide +kernel
theorem dX7_stand_11 : decode cX7_stand 11 = .ok (.aload_n 0, 1) := by decide +kernel
theorem dX7_stand_12 : decode cX7_stand 12 = .ok (.getfield 85, 3) := by decide +kernel
theorem dX7_stand_15 : decode cX7_stand 15 = .ok (.istore_n 2, 1) := by decide +kernel
theorem dX7_stand_16 : decode cX7_stand 16 = .ok (.aload_n 0, 1) := by decide +kernel
theorem dX7_stand_17 : decode cX7_stand 17 = .ok (.iload_n 1, 1) := by decide +kernel
theorem dX7_stand_18 : decode cX7_stand 18 = .ok (.putfield 82, 3) := by decide +kernel
theorem dX7_stand_21 : decode cX7_stand 21 = .ok (.aload_n 0, 1) := by decide +kernel
theorem dX7_stand_22 : decode cX7_stand 22 = .ok (.iconst 0, 1) := by decide +kernel
theorem dX7_stand_23 : decode cX7_stand 23 = .ok (.putfield 85, 3) := by decide +kernel
theorem dX7_stand_26 : decode cX7_stand 26 = .ok (.iload_n 2, 1) := by decide +kernel
theorem dX7_stand_27 : decode cX7_stand 27 = .ok (.ireturn, 1) := by decide +kernel
theorem dX7_push_0 : decode cX7_push 0 = .ok (.aload_n 0, 1) := by decide +kernel
theorem dX7_push_1 : decode cX7_push 1 = .ok (.iload_n 1, 1) := by decide +kernel
theorem dX7_push_2 : decode cX7_push 2 = .ok (.invokevirtual 95, 3) := by decide +kernel
theorem dX7_push_5 : decode cX7_push 5 = .ok (.ifCond .ne 6, 3) := by decide +kernel
theorem dX7_push_8 : decode cX7_push 8 = .ok (.bipush (-2), 2) := by decide +kernel
theorem dX7_push_10 : decode cX7_push 10 = .ok (.ireturn, 1) := by decide +kernel
theorem dX7_push_11 : decode cX7_push 11 = .ok (.aload_n 0, 1) := by decide +kernel
theorem dX7_push_12 : decode cX7_push 12 = .ok (.getfield 85, 3) := by decide +kernel
theorem dX7_push_15 : decode cX7_push 15 = .ok (.bipush 60, 2) := by decide +kernel
theorem dX7_push_17 : decode cX7_push 17 = .ok (.if_icmp .ne 6, 3) := by decide +kernel
theorem dX7_push_20 : decode cX7_push 20 = .ok (.bipush (-4), 2) := by decide +kernel
theorem dX7_push_22 : decode cX7_push 22 = .ok (.ireturn, 1) := by decide +kernel
theorem dX7_push_23 : decode cX7_push 23 = .ok (.aload_n 0, 1) := by decide +kernel
theorem dX7_push_24 : decode cX7_push 24 = .ok (.getfield 32, 3) := by decide +kernel
theorem dX7_push_27 : decode cX7_push 27 = .ok (.aload_n 0, 1) := by decide +kernel
theorem dX7_push_28 : decode cX7_push 28 = .ok (.getfield 85, 3) := by decide +kernel
theorem dX7_push_31 : decode cX7_push 31 = .ok (.iload_n 1, 1) := by decide +kernel
theorem dX7_push_32 : decode cX7_push 32 = .ok (.iastore, 1) := by decide +kernel
theorem dX7_push_33 : decode cX7_push 33 = .ok (.aload_n 0, 1) := by decide +kernel
theorem dX7_push_34 : decode cX7_push 34 = .ok (.dup, 1) := by decide +kernel
theorem dX7_push_35 : decode cX7_push 35 = .ok (.getfield 85, 3) := by decide +kernel
theorem dX7_push_38 : decode cX7_push 38 = .ok (.iconst 1, 1) := by decide +kernel
theorem dX7_push_39 : decode cX7_push 39 = .ok (.iadd, 1) := by decide +kernel
theorem dX7_push_40 : decode cX7_push 40 = .ok (.putfield 85, 3) := by decide +kernel
theorem dX7_push_43 : decode cX7_push 43 = .ok (.aload_n 0, 1) := by decide +kernel
theorem dX7_push_44 : decode cX7_push 44 = .ok (.getfield 85, 3) := by decide +kernel
theorem dX7_push_47 : decode cX7_push 47 = .ok (.ireturn, 1) := by decide +kernel
theorem dX7_at_0 : decode cX7_at 0 = .ok (.iload_n 1, 1) := by decide +kernel
theorem dX7_at_1 : decode cX7_at 1 = .ok (.iconst (-1), 1) := by decide +kernel
theorem dX7_at_2 : decode cX7_at 2 = .ok (.if_icmp .ne 10, 3) := by decide +kernel
theorem dX7_at_5 : decode cX7_at 5 = .ok (.aload_n 0, 1) := by decide +kernel
theorem dX7_at_6 : decode cX7_at 6 = .ok (.getfield 82, 3) := by decide +kernel
theorem dX7_at_9 : decode cX7_at 9 = .ok (.goto 37, 3) := by decide +kernel
theorem dX7_at_12 : decode cX7_at 12 = .ok (.iload_n 1, 1) := by decide +kernel
theorem dX7_at_13 : decode cX7_at 13 = .ok (.i2l, 1) := by decide +kernel
theorem dX7_at_14 : decode cX7_at 14 = .ok (.lconst 0, 1) := by decide +kernel
theorem dX7_at_15 : decode cX7_at 15 = .ok (.aload_n 0, 1) := by decide +kernel
theorem dX7_at_16 : decode cX7_at 16 = .ok (.getfield 85, 3) := by decide +kernel
theorem dX7_at_19 : decode cX7_at 19 = .ok (.iconst 1, 1) := by decide +kernel
theorem dX7_at_20 : decode cX7_at 20 = .ok (.isub, 1) := by decide +kernel
theorem dX7_at_21 : decode cX7_at 21 = .ok (.i2l, 1) := by decide +kernel
theorem dX7_at_22 : decode cX7_at 22 = .ok (.invokestatic 73, 3) := by decide +kernel
theorem dX7_at_25 : decode cX7_at 25 = .ok (.ifCond .eq 19, 3) := by decide +kernel
theorem dX7_at_28 : decode cX7_at 28 = .ok (.aload_n 0, 1) := by decide +kernel
theorem dX7_at_29 : decode cX7_at 29 = .ok (.getfield 32, 3) := by decide +kernel
theorem dX7_at_32 : decode cX7_at 32 = .ok (.aload_n 0, 1) := by decide +kernel
theorem dX7_at_33 : decode cX7_at 33 = .ok (.getfield 85, 3) := by decide +kernel
theorem dX7_at_36 : decode cX7_at 36 = .ok (.iconst 1, 1) := by decide +kernel
theorem dX7_at_37 : decode cX7_at 37 = .ok (.isub, 1) := by decide +kernel
theorem dX7_at_38 : decode cX7_at 38 = .ok (.iload_n 1, 1) := by decide +kernel
theorem dX7_at_39 : decode cX7_at 39 = .ok (.isub, 1) := by decide +kernel
theorem dX7_at_40 : decode cX7_at 40 = .ok (.iaload, 1) := by decide +kernel
theorem dX7_at_41 : decode cX7_at 41 = .ok (.goto 5, 3) := by decide +kernel
theorem dX7_at_44 : decode cX7_at 44 = .ok (.bipush (-2), 2) := by decide +kernel
theorem dX7_at_46 : decode cX7_at 46 = .ok (.ireturn, 1) := by decide +kernel
theorem dX7_goes_0 : decode cX7_goes 0 = .ok (.aload_n 0, 1) := by decide +kernel
theorem dX7_goes_1 : decode cX7_goes 1 = .ok (.getfield 85, 3) := by decide +kernel
theorem dX7_goes_4 : decode cX7_goes 4 = .ok (.ifCond .le 40, 3) := by decide +kernel
theorem dX7_goes_7 : decode cX7_goes 7 = .ok (.aload_n 0, 1) := by decide +kernel
theorem dX7_goes_8 : decode cX7_goes 8 = .ok (.getfield 16, 3) := by decide +kernel
theorem dX7_goes_11 : decode cX7_goes 11 = .ok (.iload_n 1, 1) := by decide +kernel
theorem dX7_goes_12 : decode cX7_goes 12 = .ok (.iaload, 1) := by decide +kernel
theorem dX7_goes_13 : decode cX7_goes 13 = .ok (.aload_n 0, 1) := by decide +kernel
theorem dX7_goes_14 : decode cX7_goes 14 = .ok (.getfield 82, 3) := by decide +kernel
theorem dX7_goes_17 : decode cX7_goes 17 = .ok (.if_icmp .ne 27, 3) := by decide +kernel
theorem dX7_goes_20 : decode cX7_goes 20 = .ok (.aload_n 0, 1) := by decide +kernel
theorem dX7_goes_21 : decode cX7_goes 21 = .ok (.getfield 20, 3) := by decide +kernel
theorem dX7_goes_24 : decode cX7_goes 24 = .ok (.iload_n 1, 1) := by decide +kernel
theorem dX7_goes_25 : decode cX7_goes 25 = .ok (.iaload, 1) := by decide +kernel
theorem dX7_goes_26 : decode cX7_goes 26 = .ok (.aload_n 0, 1) := by decide +kernel
theorem dX7_goes_27 : decode cX7_goes 27 = .ok (.getfield 32, 3) := by decide +kernel
theorem dX7_goes_30 : decode cX7_goes 30 = .ok (.aload_n 0, 1) := by decide +kernel
theorem dX7_goes_31 : decode cX7_goes 31 = .ok (.getfield 85, 3) := by decide +kernel
theorem dX7_goes_34 : decode cX7_goes 34 = .ok (.iconst 1, 1) := by decide +kernel
theorem dX7_goes_35 : decode cX7_goes 35 = .ok (.isub, 1) := by decide +kernel
theorem dX7_goes_36 : decode cX7_goes 36 = .ok (.iaload, 1) := by decide +kernel
theorem dX7_goes_37 : decode cX7_goes 37 = .ok (.if_icmp .ne 7, 3) := by decide +kernel
theorem dX7_goes_40 : decode cX7_goes 40 = .ok (.iconst 1, 1) := by decide +kernel
theorem dX7_goes_41 : decode cX7_goes 41 = .ok (.goto 4, 3) := by decide +kernel
theorem dX7_goes_44 : decode cX7_goes 44 = .ok (.iconst 0, 1) := by decide +kernel
theorem dX7_goes_45 : decode cX7_goes 45 = .ok (.ireturn, 1) := by decide +kernel
theorem dX7_puts_0 : decode cX7_puts 0 = .ok (.aload_n 0, 1) := by decide +kernel
theorem dX7_puts_1 : decode cX7_puts 1 = .ok (.getfield 26, 3) := by decide +kernel
theorem dX7_puts_4 : decode cX7_puts 4 = .ok (.iload_n 1, 1) := by decide +kernel
theorem dX7_puts_5 : decode cX7_puts 5 = .ok (.iaload, 1) := by decide +kernel
theorem dX7_puts_6 : decode cX7_puts 6 = .ok (.iconst (-1), 1) := by decide +kernel
theorem dX7_puts_7 : decode cX7_puts 7 = .ok (.if_icmp .ne 7, 3) := by decide +kernel
theorem dX7_puts_10 : decode cX7_puts 10 = .ok (.iconst 0, 1) := by decide +kernel
theorem dX7_puts_11 : decode cX7_puts 11 = .ok (.goto 18, 3) := by decide +kernel
theorem dX7_puts_14 : decode cX7_puts 14 = .ok (.aload_n 0, 1) := by decide +kernel
theorem dX7_puts_15 : decode cX7_puts 15 = .ok (.getfield 29, 3) := by decide +kernel
theorem dX7_puts_18 : decode cX7_puts 18 = .ok (.iload_n 1, 1) := by decide +kernel
theorem dX7_puts_19 : decode cX7_puts 19 = .ok (.iaload, 1) := by decide +kernel
theorem dX7_puts_20 : decode cX7_puts 20 = .ok (.iconst (-1), 1) := by decide +kernel
theorem dX7_puts_21 : decode cX7_puts 21 = .ok (.if_icmp .ne 7, 3) := by decide +kernel
theorem dX7_puts_24 : decode cX7_puts 24 = .ok (.iconst 1, 1) := by decide +kernel
theorem dX7_puts_25 : decode cX7_puts 25 = .ok (.goto 4, 3) := by decide +kernel
theorem dX7_puts_28 : decode cX7_puts 28 = .ok (.iconst 2, 1) := by decide +kernel
theorem dX7_puts_29 : decode cX7_puts 29 = .ok (.ireturn, 1) := by decide +kernel
theorem dX7_does_0 : decode cX7_does 0 = .ok (.aload_n 0, 1) := by decide +kernel
theorem dX7_does_1 : decode cX7_does 1 = .ok (.dup, 1) := by decide +kernel
theorem dX7_does_2 : decode cX7_does 2 = .ok (.getfield 85, 3) := by decide +kernel
theorem dX7_does_5 : decode cX7_does 5 = .ok (.iconst 1, 1) := by decide +kernel
theorem dX7_does_6 : decode cX7_does 6 = .ok (.isub, 1) := by decide +kernel
theorem dX7_does_7 : decode cX7_does 7 = .ok (.putfield 85, 3) := by decide +kernel
theorem dX7_does_10 : decode cX7_does 10 = .ok (.aload_n 0, 1) := by decide +kernel
theorem dX7_does_11 : decode cX7_does 11 = .ok (.iload_n 1, 1) := by decide +kernel
theorem dX7_does_12 : decode cX7_does 12 = .ok (.invokevirtual 98, 3) := by decide +kernel
theorem dX7_does_15 : decode cX7_does 15 = .ok (.iconst 2, 1) := by decide +kernel
theorem dX7_does_16 : decode cX7_does 16 = .ok (.if_icmp .ne 28, 3) := by decide +kernel
theorem dX7_does_19 : decode cX7_does 19 = .ok (.aload_n 0, 1) := by decide +kernel
theorem dX7_does_20 : decode cX7_does 20 = .ok (.getfield 32, 3) := by decide +kernel
theorem dX7_does_23 : decode cX7_does 23 = .ok (.aload_n 0, 1) := by decide +kernel
theorem dX7_does_24 : decode cX7_does 24 = .ok (.getfield 85, 3) := by decide +kernel
theorem dX7_does_27 : decode cX7_does 27 = .ok (.aload_n 0, 1) := by decide +kernel
theorem dX7_does_28 : decode cX7_does 28 = .ok (.getfield 29, 3) := by decide +kernel
theorem dX7_does_31 : decode cX7_does 31 = .ok (.iload_n 1, 1) := by decide +kernel
theorem dX7_does_32 : decode cX7_does 32 = .ok (.iaload, 1) := by decide +kernel
theorem dX7_does_33 : decode cX7_does 33 = .ok (.iastore, 1) := by decide +kernel
theorem dX7_does_34 : decode cX7_does 34 = .ok (.aload_n 0, 1) := by decide +kernel
theorem dX7_does_35 : decode cX7_does 35 = .ok (.dup, 1) := by decide +kernel
theorem dX7_does_36 : decode cX7_does 36 = .ok (.getfield 85, 3) := by decide +kernel
theorem dX7_does_39 : decode cX7_does 39 = .ok (.iconst 1, 1) := by decide +kernel
theorem dX7_does_40 : decode cX7_does 40 = .ok (.iadd, 1) := by decide +kernel
theorem dX7_does_41 : decode cX7_does 41 = .ok (.putfield 85, 3) := by decide +kernel
theorem dX7_does_44 : decode cX7_does 44 = .ok (.aload_n 0, 1) := by decide +kernel
theorem dX7_does_45 : decode cX7_does 45 = .ok (.iload_n 1, 1) := by decide +kernel
theorem dX7_does_46 : decode cX7_does 46 = .ok (.invokevirtual 98, 3) := by decide +kernel
theorem dX7_does_49 : decode cX7_does 49 = .ok (.ifCond .le 28, 3) := by decide +kernel
theorem dX7_does_52 : decode cX7_does 52 = .ok (.aload_n 0, 1) := by decide +kernel
theorem dX7_does_53 : decode cX7_does 53 = .ok (.getfield 32, 3) := by decide +kernel
theorem dX7_does_56 : decode cX7_does 56 = .ok (.aload_n 0, 1) := by decide +kernel
theorem dX7_does_57 : decode cX7_does 57 = .ok (.getfield 85, 3) := by decide +kernel
theorem dX7_does_60 : decode cX7_does 60 = .ok (.aload_n 0, 1) := by decide +kernel
theorem dX7_does_61 : decode cX7_does 61 = .ok (.getfield 26, 3) := by decide +kernel
theorem dX7_does_64 : decode cX7_does 64 = .ok (.iload_n 1, 1) := by decide +kernel
theorem dX7_does_65 : decode cX7_does 65 = .ok (.iaload, 1) := by decide +kernel
theorem dX7_does_66 : decode cX7_does 66 = .ok (.iastore, 1) := by decide +kernel
theorem dX7_does_67 : decode cX7_does 67 = .ok (.aload_n 0, 1) := by decide +kernel
theorem dX7_does_68 : decode cX7_does 68 = .ok (.dup, 1) := by decide +kernel
theorem dX7_does_69 : decode cX7_does 69 = .ok (.getfield 85, 3) := by decide +kernel
theorem dX7_does_72 : decode cX7_does 72 = .ok (.iconst 1, 1) := by decide +kernel
theorem dX7_does_73 : decode cX7_does 73 = .ok (.iadd, 1) := by decide +kernel
theorem dX7_does_74 : decode cX7_does 74 = .ok (.putfield 85, 3) := by decide +kernel
theorem dX7_does_77 : decode cX7_does 77 = .ok (.aload_n 0, 1) := by decide +kernel
theorem dX7_does_78 : decode cX7_does 78 = .ok (.aload_n 0, 1) := by decide +kernel
theorem dX7_does_79 : decode cX7_does 79 = .ok (.getfield 23, 3) := by decide +kernel
theorem dX7_does_82 : decode cX7_does 82 = .ok (.iload_n 1, 1) := by decide +kernel
theorem dX7_does_83 : decode cX7_does 83 = .ok (.iaload, 1) := by decide +kernel
theorem dX7_does_84 : decode cX7_does 84 = .ok (.putfield 82, 3) := by decide +kernel
theorem dX7_does_87 : decode cX7_does 87 = .ok (.return_, 1) := by decide +kernel
theorem dX7_go_0 : decode cX7_go 0 = .ok (.iload_n 1, 1) := by decide +kernel
theorem dX7_go_1 : decode cX7_go 1 = .ok (.i2l, 1) := by decide +kernel
theorem dX7_go_2 : decode cX7_go 2 = .ok (.lconst 0, 1) := by decide +kernel
theorem dX7_go_3 : decode cX7_go 3 = .ok (.aload_n 0, 1) := by decide +kernel
theorem dX7_go_4 : decode cX7_go 4 = .ok (.getfield 79, 3) := by decide +kernel
theorem dX7_go_7 : decode cX7_go 7 = .ok (.iconst 1, 1) := by decide +kernel
theorem dX7_go_8 : decode cX7_go 8 = .ok (.isub, 1) := by decide +kernel
theorem dX7_go_9 : decode cX7_go 9 = .ok (.i2l, 1) := by decide +kernel
theorem dX7_go_10 : decode cX7_go 10 = .ok (.invokestatic 73, 3) := by decide +kernel
theorem dX7_go_13 : decode cX7_go 13 = .ok (.ifCond .ne 6, 3) := by decide +kernel
theorem dX7_go_16 : decode cX7_go 16 = .ok (.bipush (-2), 2) := by decide +kernel
theorem dX7_go_18 : decode cX7_go 18 = .ok (.ireturn, 1) := by decide +kernel
theorem dX7_go_19 : decode cX7_go 19 = .ok (.aload_n 0, 1) := by decide +kernel
theorem dX7_go_20 : decode cX7_go 20 = .ok (.iload_n 1, 1) := by decide +kernel
theorem dX7_go_21 : decode cX7_go 21 = .ok (.invokevirtual 102, 3) := by decide +kernel
theorem dX7_go_24 : decode cX7_go 24 = .ok (.ifCond .ne 6, 3) := by decide +kernel
theorem dX7_go_27 : decode cX7_go 27 = .ok (.bipush (-3), 2) := by decide +kernel
theorem dX7_go_29 : decode cX7_go 29 = .ok (.ireturn, 1) := by decide +kernel
theorem dX7_go_30 : decode cX7_go 30 = .ok (.aload_n 0, 1) := by decide +kernel
theorem dX7_go_31 : decode cX7_go 31 = .ok (.getfield 85, 3) := by decide +kernel
theorem dX7_go_34 : decode cX7_go 34 = .ok (.iconst 1, 1) := by decide +kernel
theorem dX7_go_35 : decode cX7_go 35 = .ok (.isub, 1) := by decide +kernel
theorem dX7_go_36 : decode cX7_go 36 = .ok (.aload_n 0, 1) := by decide +kernel
theorem dX7_go_37 : decode cX7_go 37 = .ok (.iload_n 1, 1) := by decide +kernel
theorem dX7_go_38 : decode cX7_go 38 = .ok (.invokevirtual 98, 3) := by decide +kernel
theorem dX7_go_41 : decode cX7_go 41 = .ok (.iadd, 1) := by decide +kernel
theorem dX7_go_42 : decode cX7_go 42 = .ok (.bipush 60, 2) := by decide +kernel
theorem dX7_go_44 : decode cX7_go 44 = .ok (.if_icmp .le 6, 3) := by decide +kernel
theorem dX7_go_47 : decode cX7_go 47 = .ok (.bipush (-4), 2) := by decide +kernel
theorem dX7_go_49 : decode cX7_go 49 = .ok (.ireturn, 1) := by decide +kernel
theorem dX7_go_50 : decode cX7_go 50 = .ok (.aload_n 0, 1) := by decide +kernel
theorem dX7_go_51 : decode cX7_go 51 = .ok (.iload_n 1, 1) := by decide +kernel
theorem dX7_go_52 : decode cX7_go 52 = .ok (.invokevirtual 105, 3) := by decide +kernel
theorem dX7_go_55 : decode cX7_go 55 = .ok (.aload_n 0, 1) := by decide +kernel
theorem dX7_go_56 : decode cX7_go 56 = .ok (.getfield 85, 3) := by decide +kernel
theorem dX7_go_59 : decode cX7_go 59 = .ok (.ireturn, 1) := by decide +kernel
theorem dX7_isSet_0 : decode cX7_isSet 0 = .ok (.iload_n 1, 1) := by decide +kernel
theorem dX7_isSet_1 : decode cX7_isSet 1 = .ok (.i2l, 1) := by decide +kernel
theorem dX7_isSet_2 : decode cX7_isSet 2 = .ok (.lconst 0, 1) := by decide +kernel
theorem dX7_isSet_3 : decode cX7_isSet 3 = .ok (.aload_n 0, 1) := by decide +kernel
theorem dX7_isSet_4 : decode cX7_isSet 4 = .ok (.getfield 88, 3) := by decide +kernel
theorem dX7_isSet_7 : decode cX7_isSet 7 = .ok (.iconst 1, 1) := by decide +kernel
theorem dX7_isSet_8 : decode cX7_isSet 8 = .ok (.isub, 1) := by decide +kernel
theorem dX7_isSet_9 : decode cX7_isSet 9 = .ok (.i2l, 1) := by decide +kernel
theorem dX7_isSet_10 : decode cX7_isSet 10 = .ok (.invokestatic 73, 3) := by decide +kernel
theorem dX7_isSet_13 : decode cX7_isSet 13 = .ok (.ireturn, 1) := by decide +kernel
theorem dX7_set_0 : decode cX7_set 0 = .ok (.aload_n 0, 1) := by decide +kernel
theorem dX7_set_1 : decode cX7_set 1 = .ok (.getfield 88, 3) := by decide +kernel
theorem dX7_set_4 : decode cX7_set 4 = .ok (.bipush 6, 2) := by decide +kernel
theorem dX7_set_6 : decode cX7_set 6 = .ok (.if_icmp .ne 6, 3) := by decide +kernel
theorem dX7_set_9 : decode cX7_set 9 = .ok (.bipush (-4), 2) := by decide +kernel
theorem dX7_set_11 : decode cX7_set 11 = .ok (.ireturn, 1) := by decide +kernel
theorem dX7_set_12 : decode cX7_set 12 = .ok (.aload_n 0, 1) := by decide +kernel
theorem dX7_set_13 : decode cX7_set 13 = .ok (.getfield 35, 3) := by decide +kernel
theorem dX7_set_16 : decode cX7_set 16 = .ok (.aload_n 0, 1) := by decide +kernel
theorem dX7_set_17 : decode cX7_set 17 = .ok (.getfield 88, 3) := by decide +kernel
theorem dX7_set_20 : decode cX7_set 20 = .ok (.iconst 0, 1) := by decide +kernel
theorem dX7_set_21 : decode cX7_set 21 = .ok (.iastore, 1) := by decide +kernel
theorem dX7_set_22 : decode cX7_set 22 = .ok (.iconst 0, 1) := by decide +kernel
theorem dX7_set_23 : decode cX7_set 23 = .ok (.istore_n 1, 1) := by decide +kernel
theorem dX7_set_24 : decode cX7_set 24 = .ok (.iload_n 1, 1) := by decide +kernel
theorem dX7_set_25 : decode cX7_set 25 = .ok (.bipush 11, 2) := by decide +kernel
theorem dX7_set_27 : decode cX7_set 27 = .ok (.if_icmp .ge 24, 3) := by decide +kernel
theorem dX7_set_30 : decode cX7_set 30 = .ok (.aload_n 0, 1) := by decide +kernel
theorem dX7_set_31 : decode cX7_set 31 = .ok (.getfield 47, 3) := by decide +kernel
theorem dX7_set_34 : decode cX7_set 34 = .ok (.bipush 11, 2) := by decide +kernel
theorem dX7_set_36 : decode cX7_set 36 = .ok (.aload_n 0, 1) := by decide +kernel
theorem dX7_set_37 : decode cX7_set 37 = .ok (.getfield 88, 3) := by decide +kernel
theorem dX7_set_40 : decode cX7_set 40 = .ok (.imul, 1) := by decide +kernel
theorem dX7_set_41 : decode cX7_set 41 = .ok (.iload_n 1, 1) := by decide +kernel
theorem dX7_set_42 : decode cX7_set 42 = .ok (.iadd, 1) := by decide +kernel
theorem dX7_set_43 : decode cX7_set 43 = .ok (.iconst 0, 1) := by decide +kernel
theorem dX7_set_44 : decode cX7_set 44 = .ok (.bastore, 1) := by decide +kernel
theorem dX7_set_45 : decode cX7_set 45 = .ok (.iinc 1 1, 3) := by decide +kernel
theorem dX7_set_48 : decode cX7_set 48 = .ok (.goto (-24), 3) := by decide +kernel
theorem dX7_set_51 : decode cX7_set 51 = .ok (.aload_n 0, 1) := by decide +kernel
theorem dX7_set_52 : decode cX7_set 52 = .ok (.dup, 1) := by decide +kernel
theorem dX7_set_53 : decode cX7_set 53 = .ok (.getfield 88, 3) := by decide +kernel
theorem dX7_set_56 : decode cX7_set 56 = .ok (.iconst 1, 1) := by decide +kernel
theorem dX7_set_57 : decode cX7_set 57 = .ok (.iadd, 1) := by decide +kernel
theorem dX7_set_58 : decode cX7_set 58 = .ok (.putfield 88, 3) := by decide +kernel
theorem dX7_set_61 : decode cX7_set 61 = .ok (.aload_n 0, 1) := by decide +kernel
theorem dX7_set_62 : decode cX7_set 62 = .ok (.getfield 88, 3) := by decide +kernel
theorem dX7_set_65 : decode cX7_set 65 = .ok (.iconst 1, 1) := by decide +kernel
theorem dX7_set_66 : decode cX7_set 66 = .ok (.isub, 1) := by decide +kernel
theorem dX7_set_67 : decode cX7_set 67 = .ok (.ireturn, 1) := by decide +kernel
theorem dX7_isPlace_0 : decode cX7_isPlace 0 = .ok (.iload_n 1, 1) := by decide +kernel
theorem dX7_isPlace_1 : decode cX7_isPlace 1 = .ok (.ifCond .ne 11, 3) := by decide +kernel
theorem dX7_isPlace_4 : decode cX7_isPlace 4 = .ok (.aload_n 0, 1) := by decide +kernel
theorem dX7_isPlace_5 : decode cX7_isPlace 5 = .ok (.iload_n 2, 1) := by decide +kernel
theorem dX7_isPlace_6 : decode cX7_isPlace 6 = .ok (.invokevirtual 91, 3) := by decide +kernel
theorem dX7_isPlace_9 : decode cX7_isPlace 9 = .ok (.goto 25, 3) := by decide +kernel
theorem dX7_isPlace_12 : decode cX7_isPlace 12 = .ok (.iload_n 1, 1) := by decide +kernel
theorem dX7_isPlace_13 : decode cX7_isPlace 13 = .ok (.iconst 1, 1) := by decide +kernel
theorem dX7_isPlace_14 : decode cX7_isPlace 14 = .ok (.if_icmp .ne 19, 3) := by decide +kernel
theorem dX7_isPlace_17 : decode cX7_isPlace 17 = .ok (.iload_n 2, 1) := by decide +kernel
theorem dX7_isPlace_18 : decode cX7_isPlace 18 = .ok (.i2l, 1) := by decide +kernel
theorem dX7_isPlace_19 : decode cX7_isPlace 19 = .ok (.lconst 0, 1) := by decide +kernel
theorem dX7_isPlace_20 : decode cX7_isPlace 20 = .ok (.ldc2_w 77, 3) := by decide +kernel
theorem dX7_isPlace_23 : decode cX7_isPlace 23 = .ok (.invokestatic 73, 3) := by decide +kernel
theorem dX7_isPlace_26 : decode cX7_isPlace 26 = .ok (.ifCond .eq 7, 3) := by decide +kernel
theorem dX7_isPlace_29 : decode cX7_isPlace 29 = .ok (.iconst 1, 1) := by decide +kernel
theorem dX7_isPlace_30 : decode cX7_isPlace 30 = .ok (.goto 4, 3) := by decide +kernel
theorem dX7_isPlace_33 : decode cX7_isPlace 33 = .ok (.iconst 0, 1) := by decide +kernel
theorem dX7_isPlace_34 : decode cX7_isPlace 34 = .ok (.ireturn, 1) := by decide +kernel
theorem dX7_link_0 : decode cX7_link 0 = .ok (.aload_n 0, 1) := by decide +kernel
theorem dX7_link_1 : decode cX7_link 1 = .ok (.iload_n 1, 1) := by decide +kernel
theorem dX7_link_2 : decode cX7_link 2 = .ok (.invokevirtual 109, 3) := by decide +kernel
theorem dX7_link_5 : decode cX7_link 5 = .ok (.ifCond .eq 34, 3) := by decide +kernel
theorem dX7_link_8 : decode cX7_link 8 = .ok (.aload_n 0, 1) := by decide +kernel
theorem dX7_link_9 : decode cX7_link 9 = .ok (.iload_n 2, 1) := by decide +kernel
theorem dX7_link_10 : decode cX7_link 10 = .ok (.iload_n 3, 1) := by decide +kernel
theorem dX7_link_11 : decode cX7_link 11 = .ok (.invokevirtual 112, 3) := by decide +kernel
theorem dX7_link_14 : decode cX7_link 14 = .ok (.ifCond .eq 25, 3) := by decide +kernel
theorem dX7_link_17 : decode cX7_link 17 = .ok (.aload_n 0, 1) := by decide +kernel
theorem dX7_link_18 : decode cX7_link 18 = .ok (.iload 4, 2) := by decide +kernel
theorem dX7_link_20 : decode cX7_link 20 = .ok (.invokevirtual 95, 3) := by decide +kernel
theorem dX7_link_23 : decode cX7_link 23 = .ok (.ifCond .eq 16, 3) := by decide +kernel
theorem dX7_link_26 : decode cX7_link 26 = .ok (.iload 5, 2) := by decide +kernel
theorem dX7_link_28 : decode cX7_link 28 = .ok (.i2l, 1) := by decide +kernel
theorem dX7_link_29 : decode cX7_link 29 = .ok (.lconst 0, 1) := by decide +kernel
theorem dX7_link_30 : decode cX7_link 30 = .ok (.ldc2_w 77, 3) := by decide +kernel
theorem dX7_link_33 : decode cX7_link 33 = .ok (.invokestatic 73, 3) := by decide +kernel
theorem dX7_link_36 : decode cX7_link 36 = .ok (.ifCond .ne 6, 3) := by decide +kernel
theorem dX7_link_39 : decode cX7_link 39 = .ok (.bipush (-2), 2) := by decide +kernel
theorem dX7_link_41 : decode cX7_link 41 = .ok (.ireturn, 1) := by decide +kernel
theorem dX7_link_42 : decode cX7_link 42 = .ok (.aload_n 0, 1) := by decide +kernel
theorem dX7_link_43 : decode cX7_link 43 = .ok (.getfield 35, 3) := by decide +kernel
theorem dX7_link_46 : decode cX7_link 46 = .ok (.iload_n 1, 1) := by decide +kernel
theorem dX7_link_47 : decode cX7_link 47 = .ok (.iaload, 1) := by decide +kernel
theorem dX7_link_48 : decode cX7_link 48 = .ok (.bipush 24, 2) := by decide +kernel
theorem dX7_link_50 : decode cX7_link 50 = .ok (.if_icmp .ne 6, 3) := by decide +kernel
theorem dX7_link_53 : decode cX7_link 53 = .ok (.bipush (-4), 2) := by decide +kernel
theorem dX7_link_55 : decode cX7_link 55 = .ok (.ireturn, 1) := by decide +kernel
theorem dX7_link_56 : decode cX7_link 56 = .ok (.bipush 24, 2) := by decide +kernel
theorem dX7_link_58 : decode cX7_link 58 = .ok (.iload_n 1, 1) := by decide +kernel
theorem dX7_link_59 : decode cX7_link 59 = .ok (.imul, 1) := by decide +kernel
theorem dX7_link_60 : decode cX7_link 60 = .ok (.aload_n 0, 1) := by decide +kernel
theorem dX7_link_61 : decode cX7_link 61 = .ok (.getfield 35, 3) := by decide +kernel
theorem dX7_link_64 : decode cX7_link 64 = .ok (.iload_n 1, 1) := by decide +kernel
theorem dX7_link_65 : decode cX7_link 65 = .ok (.iaload, 1) := by decide +kernel
theorem dX7_link_66 : decode cX7_link 66 = .ok (.iadd, 1) := by decide +kernel
theorem dX7_link_67 : decode cX7_link 67 = .ok (.istore 6, 2) := by decide +kernel
theorem dX7_link_69 : decode cX7_link 69 = .ok (.aload_n 0, 1) := by decide +kernel
theorem dX7_link_70 : decode cX7_link 70 = .ok (.getfield 38, 3) := by decide +kernel
theorem dX7_link_73 : decode cX7_link 73 = .ok (.iload 6, 2) := by decide +kernel
theorem dX7_link_75 : decode cX7_link 75 = .ok (.iload_n 2, 1) := by decide +kernel
theorem dX7_link_76 : decode cX7_link 76 = .ok (.ifCond .ne 7, 3) := by decide +kernel
theorem dX7_link_79 : decode cX7_link 79 = .ok (.iload_n 3, 1) := by decide +kernel
theorem dX7_link_80 : decode cX7_link 80 = .ok (.goto 6, 3) := by decide +kernel
theorem dX7_link_83 : decode cX7_link 83 = .ok (.iconst 5, 1) := by decide +kernel
theorem dX7_link_84 : decode cX7_link 84 = .ok (.iload_n 3, 1) := by decide +kernel
theorem dX7_link_85 : decode cX7_link 85 = .ok (.iadd, 1) := by decide +kernel
theorem dX7_link_86 : decode cX7_link 86 = .ok (.iastore, 1) := by decide +kernel
theorem dX7_link_87 : decode cX7_link 87 = .ok (.aload_n 0, 1) := by decide +kernel
theorem dX7_link_88 : decode cX7_link 88 = .ok (.getfield 41, 3) := by decide +kernel
theorem dX7_link_91 : decode cX7_link 91 = .ok (.iload 6, 2) := by decide +kernel
theorem dX7_link_93 : decode cX7_link 93 = .ok (.iload 4, 2) := by decide +kernel
theorem dX7_link_95 : decode cX7_link 95 = .ok (.iastore, 1) := by decide +kernel
theorem dX7_link_96 : decode cX7_link 96 = .ok (.aload_n 0, 1) := by decide +kernel
theorem dX7_link_97 : decode cX7_link 97 = .ok (.getfield 44, 3) := by decide +kernel
theorem dX7_link_100 : decode cX7_link 100 = .ok (.iload 6, 2) := by decide +kernel
theorem dX7_link_102 : decode cX7_link 102 = .ok (.iconst 5, 1) := by decide +kernel
theorem dX7_link_103 : decode cX7_link 103 = .ok (.iload 5, 2) := by decide +kernel
theorem dX7_link_105 : decode cX7_link 105 = .ok (.iadd, 1) := by decide +kernel
theorem dX7_link_106 : decode cX7_link 106 = .ok (.iastore, 1) := by decide +kernel
theorem dX7_link_107 : decode cX7_link 107 = .ok (.aload_n 0, 1) := by decide +kernel
theorem dX7_link_108 : decode cX7_link 108 = .ok (.getfield 35, 3) := by decide +kernel
theorem dX7_link_111 : decode cX7_link 111 = .ok (.iload_n 1, 1) := by decide +kernel
theorem dX7_link_112 : decode cX7_link 112 = .ok (.dup2, 1) := by decide +kernel
theorem dX7_link_113 : decode cX7_link 113 = .ok (.iaload, 1) := by decide +kernel
theorem dX7_link_114 : decode cX7_link 114 = .ok (.iconst 1, 1) := by decide +kernel
theorem dX7_link_115 : decode cX7_link 115 = .ok (.iadd, 1) := by decide +kernel
theorem dX7_link_116 : decode cX7_link 116 = .ok (.iastore, 1) := by decide +kernel
theorem dX7_link_117 : decode cX7_link 117 = .ok (.aload_n 0, 1) := by decide +kernel
theorem dX7_link_118 : decode cX7_link 118 = .ok (.getfield 35, 3) := by decide +kernel
theorem dX7_link_121 : decode cX7_link 121 = .ok (.iload_n 1, 1) := by decide +kernel
theorem dX7_link_122 : decode cX7_link 122 = .ok (.iaload, 1) := by decide +kernel
theorem dX7_link_123 : decode cX7_link 123 = .ok (.ireturn, 1) := by decide +kernel
theorem dX7_last_0 : decode cX7_last 0 = .ok (.aload_n 0, 1) := by decide +kernel
theorem dX7_last_1 : decode cX7_last 1 = .ok (.iload_n 1, 1) := by decide +kernel
theorem dX7_last_2 : decode cX7_last 2 = .ok (.invokevirtual 109, 3) := by decide +kernel
theorem dX7_last_5 : decode cX7_last 5 = .ok (.ifCond .eq 12, 3) := by decide +kernel
theorem dX7_last_8 : decode cX7_last 8 = .ok (.aload_n 0, 1) := by decide +kernel
theorem dX7_last_9 : decode cX7_last 9 = .ok (.iload_n 2, 1) := by decide +kernel
theorem dX7_last_10 : decode cX7_last 10 = .ok (.iload_n 3, 1) := by decide +kernel
theorem dX7_last_11 : decode cX7_last 11 = .ok (.invokevirtual 112, 3) := by decide +kernel
theorem dX7_last_14 : decode cX7_last 14 = .ok (.ifCond .ne 6, 3) := by decide +kernel
theorem dX7_last_17 : decode cX7_last 17 = .ok (.bipush (-2), 2) := by decide +kernel
theorem dX7_last_19 : decode cX7_last 19 = .ok (.ireturn, 1) := by decide +kernel
theorem dX7_last_20 : decode cX7_last 20 = .ok (.bipush 11, 2) := by decide +kernel
theorem dX7_last_22 : decode cX7_last 22 = .ok (.iload_n 1, 1) := by decide +kernel
theorem dX7_last_23 : decode cX7_last 23 = .ok (.imul, 1) := by decide +kernel
theorem dX7_last_24 : decode cX7_last 24 = .ok (.iload_n 2, 1) := by decide +kernel
theorem dX7_last_25 : decode cX7_last 25 = .ok (.ifCond .ne 7, 3) := by decide +kernel
theorem dX7_last_28 : decode cX7_last 28 = .ok (.iload_n 3, 1) := by decide +kernel
theorem dX7_last_29 : decode cX7_last 29 = .ok (.goto 6, 3) := by decide +kernel
theorem dX7_last_32 : decode cX7_last 32 = .ok (.iconst 5, 1) := by decide +kernel
theorem dX7_last_33 : decode cX7_last 33 = .ok (.iload_n 3, 1) := by decide +kernel
theorem dX7_last_34 : decode cX7_last 34 = .ok (.iadd, 1) := by decide +kernel
theorem dX7_last_35 : decode cX7_last 35 = .ok (.iadd, 1) := by decide +kernel
theorem dX7_last_36 : decode cX7_last 36 = .ok (.istore 5, 2) := by decide +kernel
theorem dX7_last_38 : decode cX7_last 38 = .ok (.aload_n 0, 1) := by decide +kernel
theorem dX7_last_39 : decode cX7_last 39 = .ok (.getfield 47, 3) := by decide +kernel
theorem dX7_last_42 : decode cX7_last 42 = .ok (.iload 5, 2) := by decide +kernel
theorem dX7_last_44 : decode cX7_last 44 = .ok (.baload, 1) := by decide +kernel
theorem dX7_last_45 : decode cX7_last 45 = .ok (.ifCond .eq 7, 3) := by decide +kernel
theorem dX7_last_48 : decode cX7_last 48 = .ok (.iconst 1, 1) := by decide +kernel
theorem dX7_last_49 : decode cX7_last 49 = .ok (.goto 4, 3) := by decide +kernel
theorem dX7_last_52 : decode cX7_last 52 = .ok (.iconst 0, 1) := by decide +kernel
theorem dX7_last_53 : decode cX7_last 53 = .ok (.istore 6, 2) := by decide +kernel
theorem dX7_last_55 : decode cX7_last 55 = .ok (.aload_n 0, 1) := by decide +kernel
theorem dX7_last_56 : decode cX7_last 56 = .ok (.getfield 47, 3) := by decide +kernel
theorem dX7_last_59 : decode cX7_last 59 = .ok (.iload 5, 2) := by decide +kernel
theorem dX7_last_61 : decode cX7_last 61 = .ok (.iload 4, 2) := by decide +kernel
theorem dX7_last_63 : decode cX7_last 63 = .ok (.bastore, 1) := by decide +kernel
theorem dX7_last_64 : decode cX7_last 64 = .ok (.iload 6, 2) := by decide +kernel
theorem dX7_last_66 : decode cX7_last 66 = .ok (.ireturn, 1) := by decide +kernel
theorem dX7_unset_0 : decode cX7_unset 0 = .ok (.aload_n 0, 1) := by decide +kernel
theorem dX7_unset_1 : decode cX7_unset 1 = .ok (.getfield 88, 3) := by decide +kernel
theorem dX7_unset_4 : decode cX7_unset 4 = .ok (.ifCond .ne 6, 3) := by decide +kernel
theorem dX7_unset_7 : decode cX7_unset 7 = .ok (.bipush (-3), 2) := by decide +kernel
theorem dX7_unset_9 : decode cX7_unset 9 = .ok (.ireturn, 1) := by decide +kernel
theorem dX7_unset_10 : decode cX7_unset 10 = .ok (.aload_n 0, 1) := by decide +kernel
theorem dX7_unset_11 : decode cX7_unset 11 = .ok (.dup, 1) := by decide +kernel
theorem dX7_unset_12 : decode cX7_unset 12 = .ok (.getfield 88, 3) := by decide +kernel
theorem dX7_unset_15 : decode cX7_unset 15 = .ok (.iconst 1, 1) := by decide +kernel
theorem dX7_unset_16 : decode cX7_unset 16 = .ok (.isub, 1) := by decide +kernel
theorem dX7_unset_17 : decode cX7_unset 17 = .ok (.putfield 88, 3) := by decide +kernel
theorem dX7_unset_20 : decode cX7_unset 20 = .ok (.aload_n 0, 1) := by decide +kernel
theorem dX7_unset_21 : decode cX7_unset 21 = .ok (.getfield 88, 3) := by decide +kernel
theorem dX7_unset_24 : decode cX7_unset 24 = .ok (.ireturn, 1) := by decide +kernel
theorem dX7_isLinked_0 : decode cX7_isLinked 0 = .ok (.iconst 0, 1) := by decide +kernel
theorem dX7_isLinked_1 : decode cX7_isLinked 1 = .ok (.istore 5, 2) := by decide +kernel
theorem dX7_isLinked_3 : decode cX7_isLinked 3 = .ok (.bipush 24, 2) := by decide +kernel
theorem dX7_isLinked_5 : decode cX7_isLinked 5 = .ok (.iload_n 1, 1) := by decide +kernel
theorem dX7_isLinked_6 : decode cX7_isLinked 6 = .ok (.imul, 1) := by decide +kernel
theorem dX7_isLinked_7 : decode cX7_isLinked 7 = .ok (.istore 6, 2) := by decide +kernel
theorem dX7_isLinked_9 : decode cX7_isLinked 9 = .ok (.iload 6, 2) := by decide +kernel
theorem dX7_isLinked_11 : decode cX7_isLinked 11 = .ok (.bipush 24, 2) := by decide +kernel
theorem dX7_isLinked_13 : decode cX7_isLinked 13 = .ok (.iload_n 1, 1) := by decide +kernel
theorem dX7_isLinked_14 : decode cX7_isLinked 14 = .ok (.imul, 1) := by decide +kernel
theorem dX7_isLinked_15 : decode cX7_isLinked 15 = .ok (.aload_n 0, 1) := by decide +kernel
theorem dX7_isLinked_16 : decode cX7_isLinked 16 = .ok (.getfield 35, 3) := by decide +kernel
theorem dX7_isLinked_19 : decode cX7_isLinked 19 = .ok (.iload_n 1, 1) := by decide +kernel
theorem dX7_isLinked_20 : decode cX7_isLinked 20 = .ok (.iaload, 1) := by decide +kernel
theorem dX7_isLinked_21 : decode cX7_isLinked 21 = .ok (.iadd, 1) := by decide +kernel
theorem dX7_isLinked_22 : decode cX7_isLinked 22 = .ok (.if_icmp .ge 55, 3) := by decide +kernel
theorem dX7_isLinked_25 : decode cX7_isLinked 25 = .ok (.iload 5, 2) := by decide +kernel
theorem dX7_isLinked_27 : decode cX7_isLinked 27 = .ok (.ifCond .ne 37, 3) := by decide +kernel
theorem dX7_isLinked_30 : decode cX7_isLinked 30 = .ok (.aload_n 0, 1) := by decide +kernel
theorem dX7_isLinked_31 : decode cX7_isLinked 31 = .ok (.getfield 38, 3) := by decide +kernel
theorem dX7_isLinked_34 : decode cX7_isLinked 34 = .ok (.iload 6, 2) := by decide +kernel
theorem dX7_isLinked_36 : decode cX7_isLinked 36 = .ok (.iaload, 1) := by decide +kernel
theorem dX7_isLinked_37 : decode cX7_isLinked 37 = .ok (.iload_n 2, 1) := by decide +kernel
theorem dX7_isLinked_38 : decode cX7_isLinked 38 = .ok (.if_icmp .ne 30, 3) := by decide +kernel
theorem dX7_isLinked_41 : decode cX7_isLinked 41 = .ok (.aload_n 0, 1) := by decide +kernel
theorem dX7_isLinked_42 : decode cX7_isLinked 42 = .ok (.getfield 41, 3) := by decide +kernel
theorem dX7_isLinked_45 : decode cX7_isLinked 45 = .ok (.iload 6, 2) := by decide +kernel
theorem dX7_isLinked_47 : decode cX7_isLinked 47 = .ok (.iaload, 1) := by decide +kernel
theorem dX7_isLinked_48 : decode cX7_isLinked 48 = .ok (.iload_n 3, 1) := by decide +kernel
theorem dX7_isLinked_49 : decode cX7_isLinked 49 = .ok (.if_icmp .ne 19, 3) := by decide +kernel
theorem dX7_isLinked_52 : decode cX7_isLinked 52 = .ok (.aload_n 0, 1) := by decide +kernel
theorem dX7_isLinked_53 : decode cX7_isLinked 53 = .ok (.getfield 44, 3) := by decide +kernel
theorem dX7_isLinked_56 : decode cX7_isLinked 56 = .ok (.iload 6, 2) := by decide +kernel
theorem dX7_isLinked_58 : decode cX7_isLinked 58 = .ok (.iaload, 1) := by decide +kernel
theorem dX7_isLinked_59 : decode cX7_isLinked 59 = .ok (.iload 4, 2) := by decide +kernel
theorem dX7_isLinked_61 : decode cX7_isLinked 61 = .ok (.if_icmp .ne 7, 3) := by decide +kernel
theorem dX7_isLinked_64 : decode cX7_isLinked 64 = .ok (.iconst 1, 1) := by decide +kernel
theorem dX7_isLinked_65 : decode cX7_isLinked 65 = .ok (.goto 4, 3) := by decide +kernel
theorem dX7_isLinked_68 : decode cX7_isLinked 68 = .ok (.iconst 0, 1) := by decide +kernel
theorem dX7_isLinked_69 : decode cX7_isLinked 69 = .ok (.istore 5, 2) := by decide +kernel
theorem dX7_isLinked_71 : decode cX7_isLinked 71 = .ok (.iinc 6 1, 3) := by decide +kernel
theorem dX7_isLinked_74 : decode cX7_isLinked 74 = .ok (.goto (-65), 3) := by decide +kernel
theorem dX7_isLinked_77 : decode cX7_isLinked 77 = .ok (.iload 5, 2) := by decide +kernel
theorem dX7_isLinked_79 : decode cX7_isLinked 79 = .ok (.ireturn, 1) := by decide +kernel
theorem dX7_holds_0 : decode cX7_holds 0 = .ok (.iconst 1, 1) := by decide +kernel
theorem dX7_holds_1 : decode cX7_holds 1 = .ok (.aload_n 0, 1) := by decide +kernel
theorem dX7_holds_2 : decode cX7_holds 2 = .ok (.getfield 82, 3) := by decide +kernel
theorem dX7_holds_5 : decode cX7_holds 5 = .ok (.ishl, 1) := by decide +kernel
theorem dX7_holds_6 : decode cX7_holds 6 = .ok (.istore_n 2, 1) := by decide +kernel
theorem dX7_holds_7 : decode cX7_holds 7 = .ok (.aload_n 0, 1) := by decide +kernel
theorem dX7_holds_8 : decode cX7_holds 8 = .ok (.getfield 85, 3) := by decide +kernel
theorem dX7_holds_11 : decode cX7_holds 11 = .ok (.iconst 1, 1) := by decide +kernel
theorem dX7_holds_12 : decode cX7_holds 12 = .ok (.isub, 1) := by decide +kernel
theorem dX7_holds_13 : decode cX7_holds 13 = .ok (.istore_n 3, 1) := by decide +kernel
theorem dX7_holds_14 : decode cX7_holds 14 = .ok (.iload_n 3, 1) := by decide +kernel
theorem dX7_holds_15 : decode cX7_holds 15 = .ok (.ifCond .lt 88, 3) := by decide +kernel
theorem dX7_holds_18 : decode cX7_holds 18 = .ok (.iconst 0, 1) := by decide +kernel
theorem dX7_holds_19 : decode cX7_holds 19 = .ok (.istore 4, 2) := by decide +kernel
theorem dX7_holds_21 : decode cX7_holds 21 = .ok (.iconst 0, 1) := by decide +kernel
theorem dX7_holds_22 : decode cX7_holds 22 = .ok (.istore 5, 2) := by decide +kernel
theorem dX7_holds_24 : decode cX7_holds 24 = .ok (.iload 5, 2) := by decide +kernel
theorem dX7_holds_26 : decode cX7_holds 26 = .ok (.bipush 11, 2) := by decide +kernel
theorem dX7_holds_28 : decode cX7_holds 28 = .ok (.if_icmp .ge 66, 3) := by decide +kernel
theorem dX7_holds_31 : decode cX7_holds 31 = .ok (.iconst 5, 1) := by decide +kernel
theorem dX7_holds_32 : decode cX7_holds 32 = .ok (.istore 6, 2) := by decide +kernel
theorem dX7_holds_34 : decode cX7_holds 34 = .ok (.iload 6, 2) := by decide +kernel
theorem dX7_holds_36 : decode cX7_holds 36 = .ok (.bipush 11, 2) := by decide +kernel
theorem dX7_holds_38 : decode cX7_holds 38 = .ok (.if_icmp .ge 50, 3) := by decide +kernel
theorem dX7_holds_41 : decode cX7_holds 41 = .ok (.iload_n 2, 1) := by decide +kernel
theorem dX7_holds_42 : decode cX7_holds 42 = .ok (.iload 5, 2) := by decide +kernel
theorem dX7_holds_44 : decode cX7_holds 44 = .ok (.ishr, 1) := by decide +kernel
theorem dX7_holds_45 : decode cX7_holds 45 = .ok (.iconst 1, 1) := by decide +kernel
theorem dX7_holds_46 : decode cX7_holds 46 = .ok (.iand, 1) := by decide +kernel
theorem dX7_holds_47 : decode cX7_holds 47 = .ok (.iconst 1, 1) := by decide +kernel
theorem dX7_holds_48 : decode cX7_holds 48 = .ok (.if_icmp .ne 40, 3) := by decide +kernel
theorem dX7_holds_51 : decode cX7_holds 51 = .ok (.iload 4, 2) := by decide +kernel
theorem dX7_holds_53 : decode cX7_holds 53 = .ok (.aload_n 0, 1) := by decide +kernel
theorem dX7_holds_54 : decode cX7_holds 54 = .ok (.iload_n 1, 1) := by decide +kernel
theorem dX7_holds_55 : decode cX7_holds 55 = .ok (.iload 5, 2) := by decide +kernel
theorem dX7_holds_57 : decode cX7_holds 57 = .ok (.aload_n 0, 1) := by decide +kernel
theorem dX7_holds_58 : decode cX7_holds 58 = .ok (.getfield 32, 3) := by decide +kernel
theorem dX7_holds_61 : decode cX7_holds 61 = .ok (.iload_n 3, 1) := by decide +kernel
theorem dX7_holds_62 : decode cX7_holds 62 = .ok (.iaload, 1) := by decide +kernel
theorem dX7_holds_63 : decode cX7_holds 63 = .ok (.iload 6, 2) := by decide +kernel
theorem dX7_holds_65 : decode cX7_holds 65 = .ok (.invokevirtual 116, 3) := by decide +kernel
theorem dX7_holds_68 : decode cX7_holds 68 = .ok (.ifCond .eq 10, 3) := by decide +kernel
theorem dX7_holds_71 : decode cX7_holds 71 = .ok (.iconst 1, 1) := by decide +kernel
theorem dX7_holds_72 : decode cX7_holds 72 = .ok (.iload 6, 2) := by decide +kernel
theorem dX7_holds_74 : decode cX7_holds 74 = .ok (.ishl, 1) := by decide +kernel
theorem dX7_holds_75 : decode cX7_holds 75 = .ok (.goto 4, 3) := by decide +kernel
theorem dX7_holds_78 : decode cX7_holds 78 = .ok (.iconst 0, 1) := by decide +kernel
theorem dX7_holds_79 : decode cX7_holds 79 = .ok (.ior, 1) := by decide +kernel
theorem dX7_holds_80 : decode cX7_holds 80 = .ok (.istore 4, 2) := by decide +kernel
theorem dX7_holds_82 : decode cX7_holds 82 = .ok (.iinc 6 1, 3) := by decide +kernel
theorem dX7_holds_85 : decode cX7_holds 85 = .ok (.goto (-51), 3) := by decide +kernel
theorem dX7_holds_88 : decode cX7_holds 88 = .ok (.iinc 5 1, 3) := by decide +kernel
theorem dX7_holds_91 : decode cX7_holds 91 = .ok (.goto (-67), 3) := by decide +kernel
theorem dX7_holds_94 : decode cX7_holds 94 = .ok (.iload 4, 2) := by decide +kernel
theorem dX7_holds_96 : decode cX7_holds 96 = .ok (.istore_n 2, 1) := by decide +kernel
theorem dX7_holds_97 : decode cX7_holds 97 = .ok (.iinc 3 (-1), 3) := by decide +kernel
theorem dX7_holds_100 : decode cX7_holds 100 = .ok (.goto (-86), 3) := by decide +kernel
theorem dX7_holds_103 : decode cX7_holds 103 = .ok (.iconst 0, 1) := by decide +kernel
theorem dX7_holds_104 : decode cX7_holds 104 = .ok (.istore_n 3, 1) := by decide +kernel
theorem dX7_holds_105 : decode cX7_holds 105 = .ok (.iconst 0, 1) := by decide +kernel
theorem dX7_holds_106 : decode cX7_holds 106 = .ok (.istore 4, 2) := by decide +kernel
theorem dX7_holds_108 : decode cX7_holds 108 = .ok (.iload 4, 2) := by decide +kernel
theorem dX7_holds_110 : decode cX7_holds 110 = .ok (.bipush 11, 2) := by decide +kernel
theorem dX7_holds_112 : decode cX7_holds 112 = .ok (.if_icmp .ge 44, 3) := by decide +kernel
theorem dX7_holds_115 : decode cX7_holds 115 = .ok (.iload_n 3, 1) := by decide +kernel
theorem dX7_holds_116 : decode cX7_holds 116 = .ok (.ifCond .ne 28, 3) := by decide +kernel
theorem dX7_holds_119 : decode cX7_holds 119 = .ok (.iload_n 2, 1) := by decide +kernel
theorem dX7_holds_120 : decode cX7_holds 120 = .ok (.iload 4, 2) := by decide +kernel
theorem dX7_holds_122 : decode cX7_holds 122 = .ok (.ishr, 1) := by decide +kernel
theorem dX7_holds_123 : decode cX7_holds 123 = .ok (.iconst 1, 1) := by decide +kernel
theorem dX7_holds_124 : decode cX7_holds 124 = .ok (.iand, 1) := by decide +kernel
theorem dX7_holds_125 : decode cX7_holds 125 = .ok (.iconst 1, 1) := by decide +kernel
theorem dX7_holds_126 : decode cX7_holds 126 = .ok (.if_icmp .ne 22, 3) := by decide +kernel
theorem dX7_holds_129 : decode cX7_holds 129 = .ok (.aload_n 0, 1) := by decide +kernel
theorem dX7_holds_130 : decode cX7_holds 130 = .ok (.getfield 47, 3) := by decide +kernel
theorem dX7_holds_133 : decode cX7_holds 133 = .ok (.bipush 11, 2) := by decide +kernel
theorem dX7_holds_135 : decode cX7_holds 135 = .ok (.iload_n 1, 1) := by decide +kernel
theorem dX7_holds_136 : decode cX7_holds 136 = .ok (.imul, 1) := by decide +kernel
theorem dX7_holds_137 : decode cX7_holds 137 = .ok (.iload 4, 2) := by decide +kernel
theorem dX7_holds_139 : decode cX7_holds 139 = .ok (.iadd, 1) := by decide +kernel
theorem dX7_holds_140 : decode cX7_holds 140 = .ok (.baload, 1) := by decide +kernel
theorem dX7_holds_141 : decode cX7_holds 141 = .ok (.ifCond .eq 7, 3) := by decide +kernel
theorem dX7_holds_144 : decode cX7_holds 144 = .ok (.iconst 1, 1) := by decide +kernel
theorem dX7_holds_145 : decode cX7_holds 145 = .ok (.goto 4, 3) := by decide +kernel
theorem dX7_holds_148 : decode cX7_holds 148 = .ok (.iconst 0, 1) := by decide +kernel
theorem dX7_holds_149 : decode cX7_holds 149 = .ok (.istore_n 3, 1) := by decide +kernel
theorem dX7_holds_150 : decode cX7_holds 150 = .ok (.iinc 4 1, 3) := by decide +kernel
theorem dX7_holds_153 : decode cX7_holds 153 = .ok (.goto (-45), 3) := by decide +kernel
theorem dX7_holds_156 : decode cX7_holds 156 = .ok (.iload_n 3, 1) := by decide +kernel
theorem dX7_holds_157 : decode cX7_holds 157 = .ok (.ireturn, 1) := by decide +kernel
theorem dX7_in_0 : decode cX7_in 0 = .ok (.aload_n 0, 1) := by decide +kernel
theorem dX7_in_1 : decode cX7_in 1 = .ok (.iload_n 1, 1) := by decide +kernel
theorem dX7_in_2 : decode cX7_in 2 = .ok (.invokevirtual 109, 3) := by decide +kernel
theorem dX7_in_5 : decode cX7_in 5 = .ok (.ifCond .ne 8, 3) := by decide +kernel
theorem dX7_in_8 : decode cX7_in 8 = .ok (.bipush (-2), 2) := by decide +kernel
theorem dX7_in_10 : decode cX7_in 10 = .ok (.goto 16, 3) := by decide +kernel
theorem dX7_in_13 : decode cX7_in 13 = .ok (.aload_n 0, 1) := by decide +kernel
theorem dX7_in_14 : decode cX7_in 14 = .ok (.iload_n 1, 1) := by decide +kernel
theorem dX7_in_15 : decode cX7_in 15 = .ok (.invokevirtual 120, 3) := by decide +kernel
theorem dX7_in_18 : decode cX7_in 18 = .ok (.ifCond .eq 7, 3) := by decide +kernel
theorem dX7_in_21 : decode cX7_in 21 = .ok (.iconst 1, 1) := by decide +kernel
theorem dX7_in_22 : decode cX7_in 22 = .ok (.goto 4, 3) := by decide +kernel
theorem dX7_in_25 : decode cX7_in 25 = .ok (.iconst 0, 1) := by decide +kernel
theorem dX7_in_26 : decode cX7_in 26 = .ok (.ireturn, 1) := by decide +kernel
theorem dX7_costAt_0 : decode cX7_costAt 0 = .ok (.iconst 5, 1) := by decide +kernel
theorem dX7_costAt_1 : decode cX7_costAt 1 = .ok (.iload_n 0, 1) := by decide +kernel
theorem dX7_costAt_2 : decode cX7_costAt 2 = .ok (.imul, 1) := by decide +kernel
theorem dX7_costAt_3 : decode cX7_costAt 3 = .ok (.iload_n 1, 1) := by decide +kernel
theorem dX7_costAt_4 : decode cX7_costAt 4 = .ok (.iadd, 1) := by decide +kernel
theorem dX7_costAt_5 : decode cX7_costAt 5 = .ok (.bipush 11, 2) := by decide +kernel
theorem dX7_costAt_7 : decode cX7_costAt 7 = .ok (.imul, 1) := by decide +kernel
theorem dX7_costAt_8 : decode cX7_costAt 8 = .ok (.iload_n 2, 1) := by decide +kernel
theorem dX7_costAt_9 : decode cX7_costAt 9 = .ok (.iadd, 1) := by decide +kernel
theorem dX7_costAt_10 : decode cX7_costAt 10 = .ok (.ireturn, 1) := by decide +kernel
theorem dX7_plus_0 : decode cX7_plus 0 = .ok (.lload_n 0, 1) := by decide +kernel
theorem dX7_plus_1 : decode cX7_plus 1 = .ok (.lconst 0, 1) := by decide +kernel
theorem dX7_plus_2 : decode cX7_plus 2 = .ok (.lcmp, 1) := by decide +kernel
theorem dX7_plus_3 : decode cX7_plus 3 = .ok (.ifCond .lt 9, 3) := by decide +kernel
theorem dX7_plus_6 : decode cX7_plus 6 = .ok (.lload_n 2, 1) := by decide +kernel
theorem dX7_plus_7 : decode cX7_plus 7 = .ok (.lconst 0, 1) := by decide +kernel
theorem dX7_plus_8 : decode cX7_plus 8 = .ok (.lcmp, 1) := by decide +kernel
theorem dX7_plus_9 : decode cX7_plus 9 = .ok (.ifCond .ge 9, 3) := by decide +kernel
theorem dX7_plus_12 : decode cX7_plus 12 = .ok (.ldc2_w 123, 3) := by decide +kernel
theorem dX7_plus_15 : decode cX7_plus 15 = .ok (.goto 22, 3) := by decide +kernel
theorem dX7_plus_18 : decode cX7_plus 18 = .ok (.lload_n 0, 1) := by decide +kernel
theorem dX7_plus_19 : decode cX7_plus 19 = .ok (.lload_n 2, 1) := by decide +kernel
theorem dX7_plus_20 : decode cX7_plus 20 = .ok (.ladd, 1) := by decide +kernel
theorem dX7_plus_21 : decode cX7_plus 21 = .ok (.ldc2_w 125, 3) := by decide +kernel
theorem dX7_plus_24 : decode cX7_plus 24 = .ok (.lcmp, 1) := by decide +kernel
theorem dX7_plus_25 : decode cX7_plus 25 = .ok (.ifCond .le 9, 3) := by decide +kernel
theorem dX7_plus_28 : decode cX7_plus 28 = .ok (.ldc2_w 125, 3) := by decide +kernel
theorem dX7_plus_31 : decode cX7_plus 31 = .ok (.goto 6, 3) := by decide +kernel
theorem dX7_plus_34 : decode cX7_plus 34 = .ok (.lload_n 0, 1) := by decide +kernel
theorem dX7_plus_35 : decode cX7_plus 35 = .ok (.lload_n 2, 1) := by decide +kernel
theorem dX7_plus_36 : decode cX7_plus 36 = .ok (.ladd, 1) := by decide +kernel
theorem dX7_plus_37 : decode cX7_plus 37 = .ok (.lreturn, 1) := by decide +kernel
theorem dX7_lesser_0 : decode cX7_lesser 0 = .ok (.lload_n 0, 1) := by decide +kernel
theorem dX7_lesser_1 : decode cX7_lesser 1 = .ok (.lconst 0, 1) := by decide +kernel
theorem dX7_lesser_2 : decode cX7_lesser 2 = .ok (.lcmp, 1) := by decide +kernel
theorem dX7_lesser_3 : decode cX7_lesser 3 = .ok (.ifCond .ge 7, 3) := by decide +kernel
theorem dX7_lesser_6 : decode cX7_lesser 6 = .ok (.lload_n 2, 1) := by decide +kernel
theorem dX7_lesser_7 : decode cX7_lesser 7 = .ok (.goto 20, 3) := by decide +kernel
theorem dX7_lesser_10 : decode cX7_lesser 10 = .ok (.lload_n 2, 1) := by decide +kernel
theorem dX7_lesser_11 : decode cX7_lesser 11 = .ok (.lconst 0, 1) := by decide +kernel
theorem dX7_lesser_12 : decode cX7_lesser 12 = .ok (.lcmp, 1) := by decide +kernel
theorem dX7_lesser_13 : decode cX7_lesser 13 = .ok (.ifCond .lt 9, 3) := by decide +kernel
theorem dX7_lesser_16 : decode cX7_lesser 16 = .ok (.lload_n 0, 1) := by decide +kernel
theorem dX7_lesser_17 : decode cX7_lesser 17 = .ok (.lload_n 2, 1) := by decide +kernel
theorem dX7_lesser_18 : decode cX7_lesser 18 = .ok (.lcmp, 1) := by decide +kernel
theorem dX7_lesser_19 : decode cX7_lesser 19 = .ok (.ifCond .ge 7, 3) := by decide +kernel
theorem dX7_lesser_22 : decode cX7_lesser 22 = .ok (.lload_n 0, 1) := by decide +kernel
theorem dX7_lesser_23 : decode cX7_lesser 23 = .ok (.goto 4, 3) := by decide +kernel
theorem dX7_lesser_26 : decode cX7_lesser 26 = .ok (.lload_n 2, 1) := by decide +kernel
theorem dX7_lesser_27 : decode cX7_lesser 27 = .ok (.lreturn, 1) := by decide +kernel
theorem dX7_reading_0 : decode cX7_reading 0 = .ok (.iload_n 1, 1) := by decide +kernel
theorem dX7_reading_1 : decode cX7_reading 1 = .ok (.iconst 5, 1) := by decide +kernel
theorem dX7_reading_2 : decode cX7_reading 2 = .ok (.if_icmp .ge 15, 3) := by decide +kernel
theorem dX7_reading_5 : decode cX7_reading 5 = .ok (.aload_n 0, 1) := by decide +kernel
theorem dX7_reading_6 : decode cX7_reading 6 = .ok (.getfield 51, 3) := by decide +kernel
theorem dX7_reading_9 : decode cX7_reading 9 = .ok (.iload_n 1, 1) := by decide +kernel
theorem dX7_reading_10 : decode cX7_reading 10 = .ok (.iload_n 2, 1) := by decide +kernel
theorem dX7_reading_11 : decode cX7_reading 11 = .ok (.iload_n 3, 1) := by decide +kernel
theorem dX7_reading_12 : decode cX7_reading 12 = .ok (.invokestatic 127, 3) := by decide +kernel
theorem dX7_reading_15 : decode cX7_reading 15 = .ok (.laload, 1) := by decide +kernel
theorem dX7_reading_16 : decode cX7_reading 16 = .ok (.lreturn, 1) := by decide +kernel
theorem dX7_reading_17 : decode cX7_reading 17 = .ok (.iload_n 3, 1) := by decide +kernel
theorem dX7_reading_18 : decode cX7_reading 18 = .ok (.iconst 4, 1) := by decide +kernel
theorem dX7_reading_19 : decode cX7_reading 19 = .ok (.if_icmp .le 27, 3) := by decide +kernel
theorem dX7_reading_22 : decode cX7_reading 22 = .ok (.aload_n 0, 1) := by decide +kernel
theorem dX7_reading_23 : decode cX7_reading 23 = .ok (.getfield 55, 3) := by decide +kernel
theorem dX7_reading_26 : decode cX7_reading 26 = .ok (.iconst 5, 1) := by decide +kernel
theorem dX7_reading_27 : decode cX7_reading 27 = .ok (.iload_n 1, 1) := by decide +kernel
theorem dX7_reading_28 : decode cX7_reading 28 = .ok (.imul, 1) := by decide +kernel
theorem dX7_reading_29 : decode cX7_reading 29 = .ok (.iload_n 2, 1) := by decide +kernel
theorem dX7_reading_30 : decode cX7_reading 30 = .ok (.iadd, 1) := by decide +kernel
theorem dX7_reading_31 : decode cX7_reading 31 = .ok (.bipush 6, 2) := by decide +kernel
theorem dX7_reading_33 : decode cX7_reading 33 = .ok (.imul, 1) := by decide +kernel
theorem dX7_reading_34 : decode cX7_reading 34 = .ok (.iload_n 3, 1) := by decide +kernel
theorem dX7_reading_35 : decode cX7_reading 35 = .ok (.iadd, 1) := by decide +kernel
theorem dX7_reading_36 : decode cX7_reading 36 = .ok (.iconst 5, 1) := by decide +kernel
theorem dX7_reading_37 : decode cX7_reading 37 = .ok (.isub, 1) := by decide +kernel
theorem dX7_reading_38 : decode cX7_reading 38 = .ok (.baload, 1) := by decide +kernel
theorem dX7_reading_39 : decode cX7_reading 39 = .ok (.ifCond .eq 7, 3) := by decide +kernel
theorem dX7_reading_42 : decode cX7_reading 42 = .ok (.lconst 0, 1) := by decide +kernel
theorem dX7_reading_43 : decode cX7_reading 43 = .ok (.goto 6, 3) := by decide +kernel
theorem dX7_reading_46 : decode cX7_reading 46 = .ok (.ldc2_w 123, 3) := by decide +kernel
theorem dX7_reading_49 : decode cX7_reading 49 = .ok (.lreturn, 1) := by decide +kernel
theorem dX7_byRule_0 : decode cX7_byRule 0 = .ok (.aload_n 0, 1) := by decide +kernel
theorem dX7_byRule_1 : decode cX7_byRule 1 = .ok (.getfield 23, 3) := by decide +kernel
theorem dX7_byRule_4 : decode cX7_byRule 4 = .ok (.iload_n 1, 1) := by decide +kernel
theorem dX7_byRule_5 : decode cX7_byRule 5 = .ok (.iaload, 1) := by decide +kernel
theorem dX7_byRule_6 : decode cX7_byRule 6 = .ok (.istore_n 3, 1) := by decide +kernel
theorem dX7_byRule_7 : decode cX7_byRule 7 = .ok (.aload_n 0, 1) := by decide +kernel
theorem dX7_byRule_8 : decode cX7_byRule 8 = .ok (.iload_n 1, 1) := by decide +kernel
theorem dX7_byRule_9 : decode cX7_byRule 9 = .ok (.invokevirtual 98, 3) := by decide +kernel
theorem dX7_byRule_12 : decode cX7_byRule 12 = .ok (.ifCond .ne 16, 3) := by decide +kernel
theorem dX7_byRule_15 : decode cX7_byRule 15 = .ok (.iload_n 3, 1) := by decide +kernel
theorem dX7_byRule_16 : decode cX7_byRule 16 = .ok (.iload_n 2, 1) := by decide +kernel
theorem dX7_byRule_17 : decode cX7_byRule 17 = .ok (.if_icmp .ne 7, 3) := by decide +kernel
theorem dX7_byRule_20 : decode cX7_byRule 20 = .ok (.lconst 1, 1) := by decide +kernel
theorem dX7_byRule_21 : decode cX7_byRule 21 = .ok (.goto 6, 3) := by decide +kernel
theorem dX7_byRule_24 : decode cX7_byRule 24 = .ok (.ldc2_w 123, 3) := by decide +kernel
theorem dX7_byRule_27 : decode cX7_byRule 27 = .ok (.lreturn, 1) := by decide +kernel
theorem dX7_byRule_28 : decode cX7_byRule 28 = .ok (.aload_n 0, 1) := by decide +kernel
theorem dX7_byRule_29 : decode cX7_byRule 29 = .ok (.iload_n 1, 1) := by decide +kernel
theorem dX7_byRule_30 : decode cX7_byRule 30 = .ok (.invokevirtual 98, 3) := by decide +kernel
theorem dX7_byRule_33 : decode cX7_byRule 33 = .ok (.iconst 1, 1) := by decide +kernel
theorem dX7_byRule_34 : decode cX7_byRule 34 = .ok (.if_icmp .ne 20, 3) := by decide +kernel
theorem dX7_byRule_37 : decode cX7_byRule 37 = .ok (.lconst 1, 1) := by decide +kernel
theorem dX7_byRule_38 : decode cX7_byRule 38 = .ok (.aload_n 0, 1) := by decide +kernel
theorem dX7_byRule_39 : decode cX7_byRule 39 = .ok (.iload_n 3, 1) := by decide +kernel
theorem dX7_byRule_40 : decode cX7_byRule 40 = .ok (.aload_n 0, 1) := by decide +kernel
theorem dX7_byRule_41 : decode cX7_byRule 41 = .ok (.getfield 26, 3) := by decide +kernel
theorem dX7_byRule_44 : decode cX7_byRule 44 = .ok (.iload_n 1, 1) := by decide +kernel
theorem dX7_byRule_45 : decode cX7_byRule 45 = .ok (.iaload, 1) := by decide +kernel
theorem dX7_byRule_46 : decode cX7_byRule 46 = .ok (.iload_n 2, 1) := by decide +kernel
theorem dX7_byRule_47 : decode cX7_byRule 47 = .ok (.invokevirtual 131, 3) := by decide +kernel
theorem dX7_byRule_50 : decode cX7_byRule 50 = .ok (.invokestatic 135, 3) := by decide +kernel
theorem dX7_byRule_53 : decode cX7_byRule 53 = .ok (.lreturn, 1) := by decide +kernel
theorem dX7_byRule_54 : decode cX7_byRule 54 = .ok (.ldc2_w 123, 3) := by decide +kernel
theorem dX7_byRule_57 : decode cX7_byRule 57 = .ok (.lstore 4, 2) := by decide +kernel
theorem dX7_byRule_59 : decode cX7_byRule 59 = .ok (.iconst 0, 1) := by decide +kernel
theorem dX7_byRule_60 : decode cX7_byRule 60 = .ok (.istore 6, 2) := by decide +kernel
theorem dX7_byRule_62 : decode cX7_byRule 62 = .ok (.iload 6, 2) := by decide +kernel
theorem dX7_byRule_64 : decode cX7_byRule 64 = .ok (.bipush 11, 2) := by decide +kernel
theorem dX7_byRule_66 : decode cX7_byRule 66 = .ok (.if_icmp .ge 45, 3) := by decide +kernel
theorem dX7_byRule_69 : decode cX7_byRule 69 = .ok (.lload 4, 2) := by decide +kernel
theorem dX7_byRule_71 : decode cX7_byRule 71 = .ok (.aload_n 0, 1) := by decide +kernel
theorem dX7_byRule_72 : decode cX7_byRule 72 = .ok (.iload_n 3, 1) := by decide +kernel
theorem dX7_byRule_73 : decode cX7_byRule 73 = .ok (.aload_n 0, 1) := by decide +kernel
theorem dX7_byRule_74 : decode cX7_byRule 74 = .ok (.getfield 26, 3) := by decide +kernel
theorem dX7_byRule_77 : decode cX7_byRule 77 = .ok (.iload_n 1, 1) := by decide +kernel
theorem dX7_byRule_78 : decode cX7_byRule 78 = .ok (.iaload, 1) := by decide +kernel
theorem dX7_byRule_79 : decode cX7_byRule 79 = .ok (.iload 6, 2) := by decide +kernel
theorem dX7_byRule_81 : decode cX7_byRule 81 = .ok (.invokevirtual 131, 3) := by decide +kernel
theorem dX7_byRule_84 : decode cX7_byRule 84 = .ok (.aload_n 0, 1) := by decide +kernel
theorem dX7_byRule_85 : decode cX7_byRule 85 = .ok (.iload 6, 2) := by decide +kernel
theorem dX7_byRule_87 : decode cX7_byRule 87 = .ok (.aload_n 0, 1) := by decide +kernel
theorem dX7_byRule_88 : decode cX7_byRule 88 = .ok (.getfield 29, 3) := by decide +kernel
theorem dX7_byRule_91 : decode cX7_byRule 91 = .ok (.iload_n 1, 1) := by decide +kernel
theorem dX7_byRule_92 : decode cX7_byRule 92 = .ok (.iaload, 1) := by decide +kernel
theorem dX7_byRule_93 : decode cX7_byRule 93 = .ok (.iload_n 2, 1) := by decide +kernel
theorem dX7_byRule_94 : decode cX7_byRule 94 = .ok (.invokevirtual 131, 3) := by decide +kernel
theorem dX7_byRule_97 : decode cX7_byRule 97 = .ok (.invokestatic 135, 3) := by decide +kernel
theorem dX7_byRule_100 : decode cX7_byRule 100 = .ok (.invokestatic 139, 3) := by decide +kernel
theorem dX7_byRule_103 : decode cX7_byRule 103 = .ok (.lstore 4, 2) := by decide +kernel
theorem dX7_byRule_105 : decode cX7_byRule 105 = .ok (.iinc 6 1, 3) := by decide +kernel
theorem dX7_byRule_108 : decode cX7_byRule 108 = .ok (.goto (-46), 3) := by decide +kernel
theorem dX7_byRule_111 : decode cX7_byRule 111 = .ok (.lconst 1, 1) := by decide +kernel
theorem dX7_byRule_112 : decode cX7_byRule 112 = .ok (.lload 4, 2) := by decide +kernel
theorem dX7_byRule_114 : decode cX7_byRule 114 = .ok (.invokestatic 135, 3) := by decide +kernel
theorem dX7_byRule_117 : decode cX7_byRule 117 = .ok (.lreturn, 1) := by decide +kernel
theorem dX7_findCosts_0 : decode cX7_findCosts 0 = .ok (.aload_n 0, 1) := by decide +kernel
theorem dX7_findCosts_1 : decode cX7_findCosts 1 = .ok (.iload_n 1, 1) := by decide +kernel
theorem dX7_findCosts_2 : decode cX7_findCosts 2 = .ok (.putfield 142, 3) := by decide +kernel
theorem dX7_findCosts_5 : decode cX7_findCosts 5 = .ok (.iconst 0, 1) := by decide +kernel
theorem dX7_findCosts_6 : decode cX7_findCosts 6 = .ok (.istore_n 2, 1) := by decide +kernel
theorem dX7_findCosts_7 : decode cX7_findCosts 7 = .ok (.iload_n 2, 1) := by decide +kernel
theorem dX7_findCosts_8 : decode cX7_findCosts 8 = .ok (.sipush 330, 3) := by decide +kernel
theorem dX7_findCosts_11 : decode cX7_findCosts 11 = .ok (.if_icmp .ge 49, 3) := by decide +kernel
theorem dX7_findCosts_14 : decode cX7_findCosts 14 = .ok (.aload_n 0, 1) := by decide +kernel
theorem dX7_findCosts_15 : decode cX7_findCosts 15 = .ok (.getfield 55, 3) := by decide +kernel
theorem dX7_findCosts_18 : decode cX7_findCosts 18 = .ok (.iload_n 2, 1) := by decide +kernel
theorem dX7_findCosts_19 : decode cX7_findCosts 19 = .ok (.iload_n 1, 1) := by decide +kernel
theorem dX7_findCosts_20 : decode cX7_findCosts 20 = .ok (.iconst (-1), 1) := by decide +kernel
theorem dX7_findCosts_21 : decode cX7_findCosts 21 = .ok (.if_icmp .eq 31, 3) := by decide +kernel
theorem dX7_findCosts_24 : decode cX7_findCosts 24 = .ok (.aload_n 0, 1) := by decide +kernel
theorem dX7_findCosts_25 : decode cX7_findCosts 25 = .ok (.iload_n 1, 1) := by decide +kernel
theorem dX7_findCosts_26 : decode cX7_findCosts 26 = .ok (.iload_n 2, 1) := by decide +kernel
theorem dX7_findCosts_27 : decode cX7_findCosts 27 = .ok (.bipush 30, 2) := by decide +kernel
theorem dX7_findCosts_29 : decode cX7_findCosts 29 = .ok (.idiv, 1) := by decide +kernel
theorem dX7_findCosts_30 : decode cX7_findCosts 30 = .ok (.iload_n 2, 1) := by decide +kernel
theorem dX7_findCosts_31 : decode cX7_findCosts 31 = .ok (.bipush 6, 2) := by decide +kernel
theorem dX7_findCosts_33 : decode cX7_findCosts 33 = .ok (.idiv, 1) := by decide +kernel
theorem dX7_findCosts_34 : decode cX7_findCosts 34 = .ok (.iconst 5, 1) := by decide +kernel
theorem dX7_findCosts_35 : decode cX7_findCosts 35 = .ok (.irem, 1) := by decide +kernel
theorem dX7_findCosts_36 : decode cX7_findCosts 36 = .ok (.iconst 5, 1) := by decide +kernel
theorem dX7_findCosts_37 : decode cX7_findCosts 37 = .ok (.iload_n 2, 1) := by decide +kernel
theorem dX7_findCosts_38 : decode cX7_findCosts 38 = .ok (.bipush 6, 2) := by decide +kernel
theorem dX7_findCosts_40 : decode cX7_findCosts 40 = .ok (.irem, 1) := by decide +kernel
theorem dX7_findCosts_41 : decode cX7_findCosts 41 = .ok (.iadd, 1) := by decide +kernel
theorem dX7_findCosts_42 : decode cX7_findCosts 42 = .ok (.invokevirtual 116, 3) := by decide +kernel
theorem dX7_findCosts_45 : decode cX7_findCosts 45 = .ok (.ifCond .eq 7, 3) := by decide +kernel
theorem dX7_findCosts_48 : decode cX7_findCosts 48 = .ok (.iconst 1, 1) := by decide +kernel
theorem dX7_findCosts_49 : decode cX7_findCosts 49 = .ok (.goto 4, 3) := by decide +kernel
theorem dX7_findCosts_52 : decode cX7_findCosts 52 = .ok (.iconst 0, 1) := by decide +kernel
theorem dX7_findCosts_53 : decode cX7_findCosts 53 = .ok (.bastore, 1) := by decide +kernel
theorem dX7_findCosts_54 : decode cX7_findCosts 54 = .ok (.iinc 2 1, 3) := by decide +kernel
theorem dX7_findCosts_57 : decode cX7_findCosts 57 = .ok (.goto (-50), 3) := by decide +kernel
theorem dX7_findCosts_60 : decode cX7_findCosts 60 = .ok (.iconst 0, 1) := by decide +kernel
theorem dX7_findCosts_61 : decode cX7_findCosts 61 = .ok (.istore_n 2, 1) := by decide +kernel
theorem dX7_findCosts_62 : decode cX7_findCosts 62 = .ok (.iload_n 2, 1) := by decide +kernel
theorem dX7_findCosts_63 : decode cX7_findCosts 63 = .ok (.sipush 275, 3) := by decide +kernel
theorem dX7_findCosts_66 : decode cX7_findCosts 66 = .ok (.if_icmp .ge 25, 3) := by decide +kernel
theorem dX7_findCosts_69 : decode cX7_findCosts 69 = .ok (.aload_n 0, 1) := by decide +kernel
theorem dX7_findCosts_70 : decode cX7_findCosts 70 = .ok (.getfield 51, 3) := by decide +kernel
theorem dX7_findCosts_73 : decode cX7_findCosts 73 = .ok (.iload_n 2, 1) := by decide +kernel
theorem dX7_findCosts_74 : decode cX7_findCosts 74 = .ok (.ldc2_w 123, 3) := by decide +kernel
theorem dX7_findCosts_77 : decode cX7_findCosts 77 = .ok (.lastore, 1) := by decide +kernel
theorem dX7_findCosts_78 : decode cX7_findCosts 78 = .ok (.aload_n 0, 1) := by decide +kernel
theorem dX7_findCosts_79 : decode cX7_findCosts 79 = .ok (.getfield 58, 3) := by decide +kernel
theorem dX7_findCosts_82 : decode cX7_findCosts 82 = .ok (.iload_n 2, 1) := by decide +kernel
theorem dX7_findCosts_83 : decode cX7_findCosts 83 = .ok (.iconst 0, 1) := by decide +kernel
theorem dX7_findCosts_84 : decode cX7_findCosts 84 = .ok (.bastore, 1) := by decide +kernel
theorem dX7_findCosts_85 : decode cX7_findCosts 85 = .ok (.iinc 2 1, 3) := by decide +kernel
theorem dX7_findCosts_88 : decode cX7_findCosts 88 = .ok (.goto (-26), 3) := by decide +kernel
theorem dX7_findCosts_91 : decode cX7_findCosts 91 = .ok (.iconst 0, 1) := by decide +kernel
theorem dX7_findCosts_92 : decode cX7_findCosts 92 = .ok (.istore_n 2, 1) := by decide +kernel
