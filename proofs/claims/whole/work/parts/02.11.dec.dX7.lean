theorem dX7_findCosts_93 : decode cX7_findCosts 93 = .ok (.iload_n 2, 1) := by decide +kernel
theorem dX7_findCosts_94 : decode cX7_findCosts 94 = .ok (.aload_n 0, 1) := by decide +kernel
theorem dX7_findCosts_95 : decode cX7_findCosts 95 = .ok (.getfield 7, 3) := by decide +kernel
theorem dX7_findCosts_98 : decode cX7_findCosts 98 = .ok (.if_icmp .ge 84, 3) := by decide +kernel
theorem dX7_findCosts_101 : decode cX7_findCosts 101 = .ok (.iload_n 1, 1) := by decide +kernel
theorem dX7_findCosts_102 : decode cX7_findCosts 102 = .ok (.iconst (-1), 1) := by decide +kernel
theorem dX7_findCosts_103 : decode cX7_findCosts 103 = .ok (.if_icmp .eq 79, 3) := by decide +kernel
theorem dX7_findCosts_106 : decode cX7_findCosts 106 = .ok (.iconst 0, 1) := by decide +kernel
theorem dX7_findCosts_107 : decode cX7_findCosts 107 = .ok (.istore_n 3, 1) := by decide +kernel
theorem dX7_findCosts_108 : decode cX7_findCosts 108 = .ok (.iload_n 3, 1) := by decide +kernel
theorem dX7_findCosts_109 : decode cX7_findCosts 109 = .ok (.aload_n 0, 1) := by decide +kernel
theorem dX7_findCosts_110 : decode cX7_findCosts 110 = .ok (.getfield 13, 3) := by decide +kernel
theorem dX7_findCosts_113 : decode cX7_findCosts 113 = .ok (.if_icmp .ge 63, 3) := by decide +kernel
theorem dX7_findCosts_116 : decode cX7_findCosts 116 = .ok (.iconst 5, 1) := by decide +kernel
theorem dX7_findCosts_117 : decode cX7_findCosts 117 = .ok (.istore 4, 2) := by decide +kernel
theorem dX7_findCosts_119 : decode cX7_findCosts 119 = .ok (.iload 4, 2) := by decide +kernel
theorem dX7_findCosts_121 : decode cX7_findCosts 121 = .ok (.bipush 11, 2) := by decide +kernel
theorem dX7_findCosts_123 : decode cX7_findCosts 123 = .ok (.if_icmp .ge 47, 3) := by decide +kernel
theorem dX7_findCosts_126 : decode cX7_findCosts 126 = .ok (.aload_n 0, 1) := by decide +kernel
theorem dX7_findCosts_127 : decode cX7_findCosts 127 = .ok (.iload_n 1, 1) := by decide +kernel
theorem dX7_findCosts_128 : decode cX7_findCosts 128 = .ok (.iload_n 2, 1) := by decide +kernel
theorem dX7_findCosts_129 : decode cX7_findCosts 129 = .ok (.iload_n 3, 1) := by decide +kernel
theorem dX7_findCosts_130 : decode cX7_findCosts 130 = .ok (.iload 4, 2) := by decide +kernel
theorem dX7_findCosts_132 : decode cX7_findCosts 132 = .ok (.invokevirtual 116, 3) := by decide +kernel
theorem dX7_findCosts_135 : decode cX7_findCosts 135 = .ok (.ifCond .eq 29, 3) := by decide +kernel
theorem dX7_findCosts_138 : decode cX7_findCosts 138 = .ok (.aload_n 0, 1) := by decide +kernel
theorem dX7_findCosts_139 : decode cX7_findCosts 139 = .ok (.getfield 51, 3) := by decide +kernel
theorem dX7_findCosts_142 : decode cX7_findCosts 142 = .ok (.iload_n 2, 1) := by decide +kernel
theorem dX7_findCosts_143 : decode cX7_findCosts 143 = .ok (.iload_n 3, 1) := by decide +kernel
theorem dX7_findCosts_144 : decode cX7_findCosts 144 = .ok (.iload 4, 2) := by decide +kernel
theorem dX7_findCosts_146 : decode cX7_findCosts 146 = .ok (.invokestatic 127, 3) := by decide +kernel
theorem dX7_findCosts_149 : decode cX7_findCosts 149 = .ok (.lconst 0, 1) := by decide +kernel
theorem dX7_findCosts_150 : decode cX7_findCosts 150 = .ok (.lastore, 1) := by decide +kernel
theorem dX7_findCosts_151 : decode cX7_findCosts 151 = .ok (.aload_n 0, 1) := by decide +kernel
theorem dX7_findCosts_152 : decode cX7_findCosts 152 = .ok (.getfield 58, 3) := by decide +kernel
theorem dX7_findCosts_155 : decode cX7_findCosts 155 = .ok (.iload_n 2, 1) := by decide +kernel
theorem dX7_findCosts_156 : decode cX7_findCosts 156 = .ok (.iload_n 3, 1) := by decide +kernel
theorem dX7_findCosts_157 : decode cX7_findCosts 157 = .ok (.iload 4, 2) := by decide +kernel
theorem dX7_findCosts_159 : decode cX7_findCosts 159 = .ok (.invokestatic 127, 3) := by decide +kernel
theorem dX7_findCosts_162 : decode cX7_findCosts 162 = .ok (.iconst 1, 1) := by decide +kernel
theorem dX7_findCosts_163 : decode cX7_findCosts 163 = .ok (.bastore, 1) := by decide +kernel
theorem dX7_findCosts_164 : decode cX7_findCosts 164 = .ok (.iinc 4 1, 3) := by decide +kernel
theorem dX7_findCosts_167 : decode cX7_findCosts 167 = .ok (.goto (-48), 3) := by decide +kernel
theorem dX7_findCosts_170 : decode cX7_findCosts 170 = .ok (.iinc 3 1, 3) := by decide +kernel
theorem dX7_findCosts_173 : decode cX7_findCosts 173 = .ok (.goto (-65), 3) := by decide +kernel
theorem dX7_findCosts_176 : decode cX7_findCosts 176 = .ok (.iinc 2 1, 3) := by decide +kernel
theorem dX7_findCosts_179 : decode cX7_findCosts 179 = .ok (.goto (-86), 3) := by decide +kernel
theorem dX7_findCosts_182 : decode cX7_findCosts 182 = .ok (.iconst 1, 1) := by decide +kernel
theorem dX7_findCosts_183 : decode cX7_findCosts 183 = .ok (.istore_n 2, 1) := by decide +kernel
theorem dX7_findCosts_184 : decode cX7_findCosts 184 = .ok (.iload_n 2, 1) := by decide +kernel
theorem dX7_findCosts_185 : decode cX7_findCosts 185 = .ok (.ifCond .eq 11, 3) := by decide +kernel
theorem dX7_findCosts_188 : decode cX7_findCosts 188 = .ok (.aload_n 0, 1) := by decide +kernel
theorem dX7_findCosts_189 : decode cX7_findCosts 189 = .ok (.invokevirtual 145, 3) := by decide +kernel
theorem dX7_findCosts_192 : decode cX7_findCosts 192 = .ok (.istore_n 2, 1) := by decide +kernel
theorem dX7_findCosts_193 : decode cX7_findCosts 193 = .ok (.goto (-9), 3) := by decide +kernel
theorem dX7_findCosts_196 : decode cX7_findCosts 196 = .ok (.return_, 1) := by decide +kernel
theorem dX7_settle_0 : decode cX7_settle 0 = .ok (.ldc2_w 123, 3) := by decide +kernel
theorem dX7_settle_3 : decode cX7_settle 3 = .ok (.lstore_n 1, 1) := by decide +kernel
theorem dX7_settle_4 : decode cX7_settle 4 = .ok (.iconst 0, 1) := by decide +kernel
theorem dX7_settle_5 : decode cX7_settle 5 = .ok (.istore_n 3, 1) := by decide +kernel
theorem dX7_settle_6 : decode cX7_settle 6 = .ok (.iload_n 3, 1) := by decide +kernel
theorem dX7_settle_7 : decode cX7_settle 7 = .ok (.sipush 275, 3) := by decide +kernel
theorem dX7_settle_10 : decode cX7_settle 10 = .ok (.if_icmp .ge 18, 3) := by decide +kernel
theorem dX7_settle_13 : decode cX7_settle 13 = .ok (.aload_n 0, 1) := by decide +kernel
theorem dX7_settle_14 : decode cX7_settle 14 = .ok (.getfield 61, 3) := by decide +kernel
theorem dX7_settle_17 : decode cX7_settle 17 = .ok (.iload_n 3, 1) := by decide +kernel
theorem dX7_settle_18 : decode cX7_settle 18 = .ok (.ldc2_w 123, 3) := by decide +kernel
theorem dX7_settle_21 : decode cX7_settle 21 = .ok (.lastore, 1) := by decide +kernel
theorem dX7_settle_22 : decode cX7_settle 22 = .ok (.iinc 3 1, 3) := by decide +kernel
theorem dX7_settle_25 : decode cX7_settle 25 = .ok (.goto (-19), 3) := by decide +kernel
theorem dX7_settle_28 : decode cX7_settle 28 = .ok (.iconst 0, 1) := by decide +kernel
theorem dX7_settle_29 : decode cX7_settle 29 = .ok (.istore_n 3, 1) := by decide +kernel
theorem dX7_settle_30 : decode cX7_settle 30 = .ok (.iload_n 3, 1) := by decide +kernel
theorem dX7_settle_31 : decode cX7_settle 31 = .ok (.aload_n 0, 1) := by decide +kernel
theorem dX7_settle_32 : decode cX7_settle 32 = .ok (.getfield 79, 3) := by decide +kernel
theorem dX7_settle_35 : decode cX7_settle 35 = .ok (.if_icmp .ge 90, 3) := by decide +kernel
theorem dX7_settle_38 : decode cX7_settle 38 = .ok (.iconst 0, 1) := by decide +kernel
theorem dX7_settle_39 : decode cX7_settle 39 = .ok (.istore 4, 2) := by decide +kernel
theorem dX7_settle_41 : decode cX7_settle 41 = .ok (.iload 4, 2) := by decide +kernel
theorem dX7_settle_43 : decode cX7_settle 43 = .ok (.bipush 11, 2) := by decide +kernel
theorem dX7_settle_45 : decode cX7_settle 45 = .ok (.if_icmp .ge 74, 3) := by decide +kernel
theorem dX7_settle_48 : decode cX7_settle 48 = .ok (.aload_n 0, 1) := by decide +kernel
theorem dX7_settle_49 : decode cX7_settle 49 = .ok (.getfield 16, 3) := by decide +kernel
theorem dX7_settle_52 : decode cX7_settle 52 = .ok (.iload_n 3, 1) := by decide +kernel
theorem dX7_settle_53 : decode cX7_settle 53 = .ok (.iaload, 1) := by decide +kernel
theorem dX7_settle_54 : decode cX7_settle 54 = .ok (.aload_n 0, 1) := by decide +kernel
theorem dX7_settle_55 : decode cX7_settle 55 = .ok (.getfield 20, 3) := by decide +kernel
theorem dX7_settle_58 : decode cX7_settle 58 = .ok (.iload_n 3, 1) := by decide +kernel
theorem dX7_settle_59 : decode cX7_settle 59 = .ok (.iaload, 1) := by decide +kernel
theorem dX7_settle_60 : decode cX7_settle 60 = .ok (.iload 4, 2) := by decide +kernel
theorem dX7_settle_62 : decode cX7_settle 62 = .ok (.invokestatic 127, 3) := by decide +kernel
theorem dX7_settle_65 : decode cX7_settle 65 = .ok (.istore 5, 2) := by decide +kernel
theorem dX7_settle_67 : decode cX7_settle 67 = .ok (.aload_n 0, 1) := by decide +kernel
theorem dX7_settle_68 : decode cX7_settle 68 = .ok (.getfield 58, 3) := by decide +kernel
theorem dX7_settle_71 : decode cX7_settle 71 = .ok (.iload 5, 2) := by decide +kernel
theorem dX7_settle_73 : decode cX7_settle 73 = .ok (.baload, 1) := by decide +kernel
theorem dX7_settle_74 : decode cX7_settle 74 = .ok (.ifCond .ne 39, 3) := by decide +kernel
theorem dX7_settle_77 : decode cX7_settle 77 = .ok (.aload_n 0, 1) := by decide +kernel
theorem dX7_settle_78 : decode cX7_settle 78 = .ok (.getfield 61, 3) := by decide +kernel
theorem dX7_settle_81 : decode cX7_settle 81 = .ok (.iload 5, 2) := by decide +kernel
theorem dX7_settle_83 : decode cX7_settle 83 = .ok (.aload_n 0, 1) := by decide +kernel
theorem dX7_settle_84 : decode cX7_settle 84 = .ok (.getfield 61, 3) := by decide +kernel
theorem dX7_settle_87 : decode cX7_settle 87 = .ok (.iload 5, 2) := by decide +kernel
theorem dX7_settle_89 : decode cX7_settle 89 = .ok (.laload, 1) := by decide +kernel
theorem dX7_settle_90 : decode cX7_settle 90 = .ok (.aload_n 0, 1) := by decide +kernel
theorem dX7_settle_91 : decode cX7_settle 91 = .ok (.iload_n 3, 1) := by decide +kernel
theorem dX7_settle_92 : decode cX7_settle 92 = .ok (.iload 4, 2) := by decide +kernel
theorem dX7_settle_94 : decode cX7_settle 94 = .ok (.invokevirtual 149, 3) := by decide +kernel
theorem dX7_settle_97 : decode cX7_settle 97 = .ok (.invokestatic 139, 3) := by decide +kernel
theorem dX7_settle_100 : decode cX7_settle 100 = .ok (.lastore, 1) := by decide +kernel
theorem dX7_settle_101 : decode cX7_settle 101 = .ok (.lload_n 1, 1) := by decide +kernel
theorem dX7_settle_102 : decode cX7_settle 102 = .ok (.aload_n 0, 1) := by decide +kernel
theorem dX7_settle_103 : decode cX7_settle 103 = .ok (.getfield 61, 3) := by decide +kernel
theorem dX7_settle_106 : decode cX7_settle 106 = .ok (.iload 5, 2) := by decide +kernel
theorem dX7_settle_108 : decode cX7_settle 108 = .ok (.laload, 1) := by decide +kernel
theorem dX7_settle_109 : decode cX7_settle 109 = .ok (.invokestatic 139, 3) := by decide +kernel
theorem dX7_settle_112 : decode cX7_settle 112 = .ok (.lstore_n 1, 1) := by decide +kernel
theorem dX7_settle_113 : decode cX7_settle 113 = .ok (.iinc 4 1, 3) := by decide +kernel
theorem dX7_settle_116 : decode cX7_settle 116 = .ok (.goto (-75), 3) := by decide +kernel
theorem dX7_settle_119 : decode cX7_settle 119 = .ok (.iinc 3 1, 3) := by decide +kernel
theorem dX7_settle_122 : decode cX7_settle 122 = .ok (.goto (-92), 3) := by decide +kernel
theorem dX7_settle_125 : decode cX7_settle 125 = .ok (.iconst 0, 1) := by decide +kernel
theorem dX7_settle_126 : decode cX7_settle 126 = .ok (.istore_n 3, 1) := by decide +kernel
theorem dX7_settle_127 : decode cX7_settle 127 = .ok (.iconst 0, 1) := by decide +kernel
theorem dX7_settle_128 : decode cX7_settle 128 = .ok (.istore 4, 2) := by decide +kernel
theorem dX7_settle_130 : decode cX7_settle 130 = .ok (.iload 4, 2) := by decide +kernel
theorem dX7_settle_132 : decode cX7_settle 132 = .ok (.sipush 275, 3) := by decide +kernel
theorem dX7_settle_135 : decode cX7_settle 135 = .ok (.if_icmp .ge 61, 3) := by decide +kernel
theorem dX7_settle_138 : decode cX7_settle 138 = .ok (.aload_n 0, 1) := by decide +kernel
theorem dX7_settle_139 : decode cX7_settle 139 = .ok (.getfield 58, 3) := by decide +kernel
theorem dX7_settle_142 : decode cX7_settle 142 = .ok (.iload 4, 2) := by decide +kernel
theorem dX7_settle_144 : decode cX7_settle 144 = .ok (.baload, 1) := by decide +kernel
theorem dX7_settle_145 : decode cX7_settle 145 = .ok (.ifCond .ne 45, 3) := by decide +kernel
theorem dX7_settle_148 : decode cX7_settle 148 = .ok (.aload_n 0, 1) := by decide +kernel
theorem dX7_settle_149 : decode cX7_settle 149 = .ok (.getfield 61, 3) := by decide +kernel
theorem dX7_settle_152 : decode cX7_settle 152 = .ok (.iload 4, 2) := by decide +kernel
theorem dX7_settle_154 : decode cX7_settle 154 = .ok (.laload, 1) := by decide +kernel
theorem dX7_settle_155 : decode cX7_settle 155 = .ok (.lconst 0, 1) := by decide +kernel
theorem dX7_settle_156 : decode cX7_settle 156 = .ok (.lcmp, 1) := by decide +kernel
theorem dX7_settle_157 : decode cX7_settle 157 = .ok (.ifCond .lt 33, 3) := by decide +kernel
theorem dX7_settle_160 : decode cX7_settle 160 = .ok (.aload_n 0, 1) := by decide +kernel
theorem dX7_settle_161 : decode cX7_settle 161 = .ok (.getfield 61, 3) := by decide +kernel
theorem dX7_settle_164 : decode cX7_settle 164 = .ok (.iload 4, 2) := by decide +kernel
theorem dX7_settle_166 : decode cX7_settle 166 = .ok (.laload, 1) := by decide +kernel
theorem dX7_settle_167 : decode cX7_settle 167 = .ok (.lload_n 1, 1) := by decide +kernel
theorem dX7_settle_168 : decode cX7_settle 168 = .ok (.lcmp, 1) := by decide +kernel
theorem dX7_settle_169 : decode cX7_settle 169 = .ok (.ifCond .ne 21, 3) := by decide +kernel
theorem dX7_settle_172 : decode cX7_settle 172 = .ok (.aload_n 0, 1) := by decide +kernel
theorem dX7_settle_173 : decode cX7_settle 173 = .ok (.getfield 51, 3) := by decide +kernel
theorem dX7_settle_176 : decode cX7_settle 176 = .ok (.iload 4, 2) := by decide +kernel
theorem dX7_settle_178 : decode cX7_settle 178 = .ok (.lload_n 1, 1) := by decide +kernel
theorem dX7_settle_179 : decode cX7_settle 179 = .ok (.lastore, 1) := by decide +kernel
theorem dX7_settle_180 : decode cX7_settle 180 = .ok (.aload_n 0, 1) := by decide +kernel
theorem dX7_settle_181 : decode cX7_settle 181 = .ok (.getfield 58, 3) := by decide +kernel
theorem dX7_settle_184 : decode cX7_settle 184 = .ok (.iload 4, 2) := by decide +kernel
theorem dX7_settle_186 : decode cX7_settle 186 = .ok (.iconst 1, 1) := by decide +kernel
theorem dX7_settle_187 : decode cX7_settle 187 = .ok (.bastore, 1) := by decide +kernel
theorem dX7_settle_188 : decode cX7_settle 188 = .ok (.iconst 1, 1) := by decide +kernel
theorem dX7_settle_189 : decode cX7_settle 189 = .ok (.istore_n 3, 1) := by decide +kernel
theorem dX7_settle_190 : decode cX7_settle 190 = .ok (.iinc 4 1, 3) := by decide +kernel
theorem dX7_settle_193 : decode cX7_settle 193 = .ok (.goto (-63), 3) := by decide +kernel
theorem dX7_settle_196 : decode cX7_settle 196 = .ok (.iload_n 3, 1) := by decide +kernel
theorem dX7_settle_197 : decode cX7_settle 197 = .ok (.ireturn, 1) := by decide +kernel
theorem dX7_readStack_0 : decode cX7_readStack 0 = .ok (.iconst 0, 1) := by decide +kernel
theorem dX7_readStack_1 : decode cX7_readStack 1 = .ok (.istore_n 1, 1) := by decide +kernel
theorem dX7_readStack_2 : decode cX7_readStack 2 = .ok (.iload_n 1, 1) := by decide +kernel
theorem dX7_readStack_3 : decode cX7_readStack 3 = .ok (.bipush 11, 2) := by decide +kernel
theorem dX7_readStack_5 : decode cX7_readStack 5 = .ok (.if_icmp .ge 39, 3) := by decide +kernel
theorem dX7_readStack_8 : decode cX7_readStack 8 = .ok (.aload_n 0, 1) := by decide +kernel
theorem dX7_readStack_9 : decode cX7_readStack 9 = .ok (.getfield 64, 3) := by decide +kernel
theorem dX7_readStack_12 : decode cX7_readStack 12 = .ok (.iload_n 1, 1) := by decide +kernel
theorem dX7_readStack_13 : decode cX7_readStack 13 = .ok (.aload_n 0, 1) := by decide +kernel
theorem dX7_readStack_14 : decode cX7_readStack 14 = .ok (.getfield 47, 3) := by decide +kernel
theorem dX7_readStack_17 : decode cX7_readStack 17 = .ok (.bipush 11, 2) := by decide +kernel
theorem dX7_readStack_19 : decode cX7_readStack 19 = .ok (.aload_n 0, 1) := by decide +kernel
theorem dX7_readStack_20 : decode cX7_readStack 20 = .ok (.getfield 142, 3) := by decide +kernel
theorem dX7_readStack_23 : decode cX7_readStack 23 = .ok (.imul, 1) := by decide +kernel
theorem dX7_readStack_24 : decode cX7_readStack 24 = .ok (.iload_n 1, 1) := by decide +kernel
theorem dX7_readStack_25 : decode cX7_readStack 25 = .ok (.iadd, 1) := by decide +kernel
theorem dX7_readStack_26 : decode cX7_readStack 26 = .ok (.baload, 1) := by decide +kernel
theorem dX7_readStack_27 : decode cX7_readStack 27 = .ok (.ifCond .eq 7, 3) := by decide +kernel
theorem dX7_readStack_30 : decode cX7_readStack 30 = .ok (.lconst 0, 1) := by decide +kernel
theorem dX7_readStack_31 : decode cX7_readStack 31 = .ok (.goto 6, 3) := by decide +kernel
theorem dX7_readStack_34 : decode cX7_readStack 34 = .ok (.ldc2_w 123, 3) := by decide +kernel
theorem dX7_readStack_37 : decode cX7_readStack 37 = .ok (.lastore, 1) := by decide +kernel
theorem dX7_readStack_38 : decode cX7_readStack 38 = .ok (.iinc 1 1, 3) := by decide +kernel
theorem dX7_readStack_41 : decode cX7_readStack 41 = .ok (.goto (-39), 3) := by decide +kernel
theorem dX7_readStack_44 : decode cX7_readStack 44 = .ok (.iconst 0, 1) := by decide +kernel
theorem dX7_readStack_45 : decode cX7_readStack 45 = .ok (.istore_n 1, 1) := by decide +kernel
theorem dX7_readStack_46 : decode cX7_readStack 46 = .ok (.iload_n 1, 1) := by decide +kernel
theorem dX7_readStack_47 : decode cX7_readStack 47 = .ok (.aload_n 0, 1) := by decide +kernel
theorem dX7_readStack_48 : decode cX7_readStack 48 = .ok (.getfield 85, 3) := by decide +kernel
theorem dX7_readStack_51 : decode cX7_readStack 51 = .ok (.if_icmp .ge 90, 3) := by decide +kernel
theorem dX7_readStack_54 : decode cX7_readStack 54 = .ok (.iconst 0, 1) := by decide +kernel
theorem dX7_readStack_55 : decode cX7_readStack 55 = .ok (.istore_n 2, 1) := by decide +kernel
theorem dX7_readStack_56 : decode cX7_readStack 56 = .ok (.iload_n 2, 1) := by decide +kernel
theorem dX7_readStack_57 : decode cX7_readStack 57 = .ok (.bipush 11, 2) := by decide +kernel
theorem dX7_readStack_59 : decode cX7_readStack 59 = .ok (.if_icmp .ge 76, 3) := by decide +kernel
theorem dX7_readStack_62 : decode cX7_readStack 62 = .ok (.ldc2_w 123, 3) := by decide +kernel
theorem dX7_readStack_65 : decode cX7_readStack 65 = .ok (.lstore_n 3, 1) := by decide +kernel
theorem dX7_readStack_66 : decode cX7_readStack 66 = .ok (.iconst 0, 1) := by decide +kernel
theorem dX7_readStack_67 : decode cX7_readStack 67 = .ok (.istore 5, 2) := by decide +kernel
theorem dX7_readStack_69 : decode cX7_readStack 69 = .ok (.iload 5, 2) := by decide +kernel
theorem dX7_readStack_71 : decode cX7_readStack 71 = .ok (.bipush 11, 2) := by decide +kernel
theorem dX7_readStack_73 : decode cX7_readStack 73 = .ok (.if_icmp .ge 42, 3) := by decide +kernel
theorem dX7_readStack_76 : decode cX7_readStack 76 = .ok (.lload_n 3, 1) := by decide +kernel
theorem dX7_readStack_77 : decode cX7_readStack 77 = .ok (.aload_n 0, 1) := by decide +kernel
theorem dX7_readStack_78 : decode cX7_readStack 78 = .ok (.iload_n 2, 1) := by decide +kernel
theorem dX7_readStack_79 : decode cX7_readStack 79 = .ok (.aload_n 0, 1) := by decide +kernel
theorem dX7_readStack_80 : decode cX7_readStack 80 = .ok (.getfield 32, 3) := by decide +kernel
theorem dX7_readStack_83 : decode cX7_readStack 83 = .ok (.iload_n 1, 1) := by decide +kernel
theorem dX7_readStack_84 : decode cX7_readStack 84 = .ok (.iaload, 1) := by decide +kernel
theorem dX7_readStack_85 : decode cX7_readStack 85 = .ok (.iload 5, 2) := by decide +kernel
theorem dX7_readStack_87 : decode cX7_readStack 87 = .ok (.invokevirtual 131, 3) := by decide +kernel
theorem dX7_readStack_90 : decode cX7_readStack 90 = .ok (.aload_n 0, 1) := by decide +kernel
theorem dX7_readStack_91 : decode cX7_readStack 91 = .ok (.getfield 64, 3) := by decide +kernel
theorem dX7_readStack_94 : decode cX7_readStack 94 = .ok (.bipush 11, 2) := by decide +kernel
theorem dX7_readStack_96 : decode cX7_readStack 96 = .ok (.iload_n 1, 1) := by decide +kernel
theorem dX7_readStack_97 : decode cX7_readStack 97 = .ok (.imul, 1) := by decide +kernel
theorem dX7_readStack_98 : decode cX7_readStack 98 = .ok (.iload 5, 2) := by decide +kernel
theorem dX7_readStack_100 : decode cX7_readStack 100 = .ok (.iadd, 1) := by decide +kernel
theorem dX7_readStack_101 : decode cX7_readStack 101 = .ok (.laload, 1) := by decide +kernel
theorem dX7_readStack_102 : decode cX7_readStack 102 = .ok (.invokestatic 135, 3) := by decide +kernel
theorem dX7_readStack_105 : decode cX7_readStack 105 = .ok (.invokestatic 139, 3) := by decide +kernel
theorem dX7_readStack_108 : decode cX7_readStack 108 = .ok (.lstore_n 3, 1) := by decide +kernel
theorem dX7_readStack_109 : decode cX7_readStack 109 = .ok (.iinc 5 1, 3) := by decide +kernel
theorem dX7_readStack_112 : decode cX7_readStack 112 = .ok (.goto (-43), 3) := by decide +kernel
theorem dX7_readStack_115 : decode cX7_readStack 115 = .ok (.aload_n 0, 1) := by decide +kernel
theorem dX7_readStack_116 : decode cX7_readStack 116 = .ok (.getfield 64, 3) := by decide +kernel
theorem dX7_readStack_119 : decode cX7_readStack 119 = .ok (.bipush 11, 2) := by decide +kernel
theorem dX7_readStack_121 : decode cX7_readStack 121 = .ok (.iload_n 1, 1) := by decide +kernel
theorem dX7_readStack_122 : decode cX7_readStack 122 = .ok (.iconst 1, 1) := by decide +kernel
theorem dX7_readStack_123 : decode cX7_readStack 123 = .ok (.iadd, 1) := by decide +kernel
theorem dX7_readStack_124 : decode cX7_readStack 124 = .ok (.imul, 1) := by decide +kernel
theorem dX7_readStack_125 : decode cX7_readStack 125 = .ok (.iload_n 2, 1) := by decide +kernel
theorem dX7_readStack_126 : decode cX7_readStack 126 = .ok (.iadd, 1) := by decide +kernel
theorem dX7_readStack_127 : decode cX7_readStack 127 = .ok (.lload_n 3, 1) := by decide +kernel
theorem dX7_readStack_128 : decode cX7_readStack 128 = .ok (.lastore, 1) := by decide +kernel
theorem dX7_readStack_129 : decode cX7_readStack 129 = .ok (.iinc 2 1, 3) := by decide +kernel
theorem dX7_readStack_132 : decode cX7_readStack 132 = .ok (.goto (-76), 3) := by decide +kernel
theorem dX7_readStack_135 : decode cX7_readStack 135 = .ok (.iinc 1 1, 3) := by decide +kernel
theorem dX7_readStack_138 : decode cX7_readStack 138 = .ok (.goto (-92), 3) := by decide +kernel
theorem dX7_readStack_141 : decode cX7_readStack 141 = .ok (.return_, 1) := by decide +kernel
theorem dX7_farNow_0 : decode cX7_farNow 0 = .ok (.aload_n 0, 1) := by decide +kernel
theorem dX7_farNow_1 : decode cX7_farNow 1 = .ok (.invokevirtual 153, 3) := by decide +kernel
theorem dX7_farNow_4 : decode cX7_farNow 4 = .ok (.aload_n 0, 1) := by decide +kernel
theorem dX7_farNow_5 : decode cX7_farNow 5 = .ok (.getfield 64, 3) := by decide +kernel
theorem dX7_farNow_8 : decode cX7_farNow 8 = .ok (.bipush 11, 2) := by decide +kernel
theorem dX7_farNow_10 : decode cX7_farNow 10 = .ok (.aload_n 0, 1) := by decide +kernel
theorem dX7_farNow_11 : decode cX7_farNow 11 = .ok (.getfield 85, 3) := by decide +kernel
theorem dX7_farNow_14 : decode cX7_farNow 14 = .ok (.imul, 1) := by decide +kernel
theorem dX7_farNow_15 : decode cX7_farNow 15 = .ok (.aload_n 0, 1) := by decide +kernel
theorem dX7_farNow_16 : decode cX7_farNow 16 = .ok (.getfield 82, 3) := by decide +kernel
theorem dX7_farNow_19 : decode cX7_farNow 19 = .ok (.iadd, 1) := by decide +kernel
theorem dX7_farNow_20 : decode cX7_farNow 20 = .ok (.laload, 1) := by decide +kernel
theorem dX7_farNow_21 : decode cX7_farNow 21 = .ok (.lreturn, 1) := by decide +kernel
theorem dX7_far_0 : decode cX7_far 0 = .ok (.aload_n 0, 1) := by decide +kernel
theorem dX7_far_1 : decode cX7_far 1 = .ok (.iload_n 1, 1) := by decide +kernel
theorem dX7_far_2 : decode cX7_far 2 = .ok (.invokevirtual 109, 3) := by decide +kernel
theorem dX7_far_5 : decode cX7_far 5 = .ok (.ifCond .ne 7, 3) := by decide +kernel
theorem dX7_far_8 : decode cX7_far 8 = .ok (.ldc2_w 156, 3) := by decide +kernel
theorem dX7_far_11 : decode cX7_far 11 = .ok (.lreturn, 1) := by decide +kernel
theorem dX7_far_12 : decode cX7_far 12 = .ok (.aload_n 0, 1) := by decide +kernel
theorem dX7_far_13 : decode cX7_far 13 = .ok (.iload_n 1, 1) := by decide +kernel
theorem dX7_far_14 : decode cX7_far 14 = .ok (.invokevirtual 158, 3) := by decide +kernel
theorem dX7_far_17 : decode cX7_far 17 = .ok (.aload_n 0, 1) := by decide +kernel
theorem dX7_far_18 : decode cX7_far 18 = .ok (.invokevirtual 161, 3) := by decide +kernel
theorem dX7_far_21 : decode cX7_far 21 = .ok (.lreturn, 1) := by decide +kernel
theorem dX7_nextRule_0 : decode cX7_nextRule 0 = .ok (.iconst 0, 1) := by decide +kernel
theorem dX7_nextRule_1 : decode cX7_nextRule 1 = .ok (.istore_n 3, 1) := by decide +kernel
theorem dX7_nextRule_2 : decode cX7_nextRule 2 = .ok (.iload_n 3, 1) := by decide +kernel
theorem dX7_nextRule_3 : decode cX7_nextRule 3 = .ok (.aload_n 0, 1) := by decide +kernel
theorem dX7_nextRule_4 : decode cX7_nextRule 4 = .ok (.getfield 79, 3) := by decide +kernel
theorem dX7_nextRule_7 : decode cX7_nextRule 7 = .ok (.if_icmp .ge 81, 3) := by decide +kernel
theorem dX7_nextRule_10 : decode cX7_nextRule 10 = .ok (.aload_n 0, 1) := by decide +kernel
theorem dX7_nextRule_11 : decode cX7_nextRule 11 = .ok (.iload_n 3, 1) := by decide +kernel
theorem dX7_nextRule_12 : decode cX7_nextRule 12 = .ok (.invokevirtual 102, 3) := by decide +kernel
theorem dX7_nextRule_15 : decode cX7_nextRule 15 = .ok (.ifCond .eq 67, 3) := by decide +kernel
theorem dX7_nextRule_18 : decode cX7_nextRule 18 = .ok (.ldc2_w 123, 3) := by decide +kernel
theorem dX7_nextRule_21 : decode cX7_nextRule 21 = .ok (.lstore 4, 2) := by decide +kernel
theorem dX7_nextRule_23 : decode cX7_nextRule 23 = .ok (.iconst 0, 1) := by decide +kernel
theorem dX7_nextRule_24 : decode cX7_nextRule 24 = .ok (.istore 6, 2) := by decide +kernel
theorem dX7_nextRule_26 : decode cX7_nextRule 26 = .ok (.iload 6, 2) := by decide +kernel
theorem dX7_nextRule_28 : decode cX7_nextRule 28 = .ok (.bipush 11, 2) := by decide +kernel
theorem dX7_nextRule_30 : decode cX7_nextRule 30 = .ok (.if_icmp .ge 43, 3) := by decide +kernel
theorem dX7_nextRule_33 : decode cX7_nextRule 33 = .ok (.lload 4, 2) := by decide +kernel
theorem dX7_nextRule_35 : decode cX7_nextRule 35 = .ok (.aload_n 0, 1) := by decide +kernel
theorem dX7_nextRule_36 : decode cX7_nextRule 36 = .ok (.iload_n 3, 1) := by decide +kernel
theorem dX7_nextRule_37 : decode cX7_nextRule 37 = .ok (.iload 6, 2) := by decide +kernel
theorem dX7_nextRule_39 : decode cX7_nextRule 39 = .ok (.invokevirtual 149, 3) := by decide +kernel
theorem dX7_nextRule_42 : decode cX7_nextRule 42 = .ok (.aload_n 0, 1) := by decide +kernel
theorem dX7_nextRule_43 : decode cX7_nextRule 43 = .ok (.getfield 64, 3) := by decide +kernel
theorem dX7_nextRule_46 : decode cX7_nextRule 46 = .ok (.bipush 11, 2) := by decide +kernel
theorem dX7_nextRule_48 : decode cX7_nextRule 48 = .ok (.aload_n 0, 1) := by decide +kernel
theorem dX7_nextRule_49 : decode cX7_nextRule 49 = .ok (.getfield 85, 3) := by decide +kernel
theorem dX7_nextRule_52 : decode cX7_nextRule 52 = .ok (.iconst 1, 1) := by decide +kernel
theorem dX7_nextRule_53 : decode cX7_nextRule 53 = .ok (.isub, 1) := by decide +kernel
theorem dX7_nextRule_54 : decode cX7_nextRule 54 = .ok (.imul, 1) := by decide +kernel
theorem dX7_nextRule_55 : decode cX7_nextRule 55 = .ok (.iload 6, 2) := by decide +kernel
theorem dX7_nextRule_57 : decode cX7_nextRule 57 = .ok (.iadd, 1) := by decide +kernel
theorem dX7_nextRule_58 : decode cX7_nextRule 58 = .ok (.laload, 1) := by decide +kernel
theorem dX7_nextRule_59 : decode cX7_nextRule 59 = .ok (.invokestatic 135, 3) := by decide +kernel
theorem dX7_nextRule_62 : decode cX7_nextRule 62 = .ok (.invokestatic 139, 3) := by decide +kernel
theorem dX7_nextRule_65 : decode cX7_nextRule 65 = .ok (.lstore 4, 2) := by decide +kernel
theorem dX7_nextRule_67 : decode cX7_nextRule 67 = .ok (.iinc 6 1, 3) := by decide +kernel
theorem dX7_nextRule_70 : decode cX7_nextRule 70 = .ok (.goto (-44), 3) := by decide +kernel
theorem dX7_nextRule_73 : decode cX7_nextRule 73 = .ok (.lload 4, 2) := by decide +kernel
theorem dX7_nextRule_75 : decode cX7_nextRule 75 = .ok (.lload_n 1, 1) := by decide +kernel
theorem dX7_nextRule_76 : decode cX7_nextRule 76 = .ok (.lcmp, 1) := by decide +kernel
theorem dX7_nextRule_77 : decode cX7_nextRule 77 = .ok (.ifCond .ne 5, 3) := by decide +kernel
theorem dX7_nextRule_80 : decode cX7_nextRule 80 = .ok (.iload_n 3, 1) := by decide +kernel
theorem dX7_nextRule_81 : decode cX7_nextRule 81 = .ok (.ireturn, 1) := by decide +kernel
theorem dX7_nextRule_82 : decode cX7_nextRule 82 = .ok (.iinc 3 1, 3) := by decide +kernel
theorem dX7_nextRule_85 : decode cX7_nextRule 85 = .ok (.goto (-83), 3) := by decide +kernel
theorem dX7_nextRule_88 : decode cX7_nextRule 88 = .ok (.iconst (-1), 1) := by decide +kernel
theorem dX7_nextRule_89 : decode cX7_nextRule 89 = .ok (.ireturn, 1) := by decide +kernel
theorem dX7_step_0 : decode cX7_step 0 = .ok (.aload_n 0, 1) := by decide +kernel
theorem dX7_step_1 : decode cX7_step 1 = .ok (.iload_n 1, 1) := by decide +kernel
theorem dX7_step_2 : decode cX7_step 2 = .ok (.invokevirtual 109, 3) := by decide +kernel
theorem dX7_step_5 : decode cX7_step 5 = .ok (.ifCond .ne 6, 3) := by decide +kernel
theorem dX7_step_8 : decode cX7_step 8 = .ok (.bipush (-2), 2) := by decide +kernel
theorem dX7_step_10 : decode cX7_step 10 = .ok (.ireturn, 1) := by decide +kernel
theorem dX7_step_11 : decode cX7_step 11 = .ok (.aload_n 0, 1) := by decide +kernel
theorem dX7_step_12 : decode cX7_step 12 = .ok (.iload_n 1, 1) := by decide +kernel
theorem dX7_step_13 : decode cX7_step 13 = .ok (.invokevirtual 158, 3) := by decide +kernel
theorem dX7_step_16 : decode cX7_step 16 = .ok (.aload_n 0, 1) := by decide +kernel
theorem dX7_step_17 : decode cX7_step 17 = .ok (.invokevirtual 161, 3) := by decide +kernel
theorem dX7_step_20 : decode cX7_step 20 = .ok (.lstore_n 2, 1) := by decide +kernel
theorem dX7_step_21 : decode cX7_step 21 = .ok (.lload_n 2, 1) := by decide +kernel
theorem dX7_step_22 : decode cX7_step 22 = .ok (.lconst 0, 1) := by decide +kernel
theorem dX7_step_23 : decode cX7_step 23 = .ok (.lcmp, 1) := by decide +kernel
theorem dX7_step_24 : decode cX7_step 24 = .ok (.ifCond .le 11, 3) := by decide +kernel
theorem dX7_step_27 : decode cX7_step 27 = .ok (.lload_n 2, 1) := by decide +kernel
theorem dX7_step_28 : decode cX7_step 28 = .ok (.ldc2_w 125, 3) := by decide +kernel
theorem dX7_step_31 : decode cX7_step 31 = .ok (.lcmp, 1) := by decide +kernel
theorem dX7_step_32 : decode cX7_step 32 = .ok (.ifCond .lt 6, 3) := by decide +kernel
theorem dX7_step_35 : decode cX7_step 35 = .ok (.bipush (-3), 2) := by decide +kernel
theorem dX7_step_37 : decode cX7_step 37 = .ok (.ireturn, 1) := by decide +kernel
theorem dX7_step_38 : decode cX7_step 38 = .ok (.aload_n 0, 1) := by decide +kernel
theorem dX7_step_39 : decode cX7_step 39 = .ok (.lload_n 2, 1) := by decide +kernel
theorem dX7_step_40 : decode cX7_step 40 = .ok (.invokevirtual 165, 3) := by decide +kernel
theorem dX7_step_43 : decode cX7_step 43 = .ok (.istore 4, 2) := by decide +kernel
theorem dX7_step_45 : decode cX7_step 45 = .ok (.aload_n 0, 1) := by decide +kernel
theorem dX7_step_46 : decode cX7_step 46 = .ok (.getfield 85, 3) := by decide +kernel
theorem dX7_step_49 : decode cX7_step 49 = .ok (.iconst 1, 1) := by decide +kernel
theorem dX7_step_50 : decode cX7_step 50 = .ok (.isub, 1) := by decide +kernel
theorem dX7_step_51 : decode cX7_step 51 = .ok (.aload_n 0, 1) := by decide +kernel
theorem dX7_step_52 : decode cX7_step 52 = .ok (.iload 4, 2) := by decide +kernel
theorem dX7_step_54 : decode cX7_step 54 = .ok (.invokevirtual 98, 3) := by decide +kernel
theorem dX7_step_57 : decode cX7_step 57 = .ok (.iadd, 1) := by decide +kernel
theorem dX7_step_58 : decode cX7_step 58 = .ok (.bipush 60, 2) := by decide +kernel
theorem dX7_step_60 : decode cX7_step 60 = .ok (.if_icmp .le 6, 3) := by decide +kernel
theorem dX7_step_63 : decode cX7_step 63 = .ok (.bipush (-4), 2) := by decide +kernel
theorem dX7_step_65 : decode cX7_step 65 = .ok (.ireturn, 1) := by decide +kernel
theorem dX7_step_66 : decode cX7_step 66 = .ok (.aload_n 0, 1) := by decide +kernel
theorem dX7_step_67 : decode cX7_step 67 = .ok (.iload 4, 2) := by decide +kernel
theorem dX7_step_69 : decode cX7_step 69 = .ok (.invokevirtual 105, 3) := by decide +kernel
theorem dX7_step_72 : decode cX7_step 72 = .ok (.iload 4, 2) := by decide +kernel
theorem dX7_step_74 : decode cX7_step 74 = .ok (.ireturn, 1) := by decide +kernel
theorem dX7_run_0 : decode cX7_run 0 = .ok (.aload_n 0, 1) := by decide +kernel
theorem dX7_run_1 : decode cX7_run 1 = .ok (.iload_n 1, 1) := by decide +kernel
theorem dX7_run_2 : decode cX7_run 2 = .ok (.invokevirtual 109, 3) := by decide +kernel
theorem dX7_run_5 : decode cX7_run 5 = .ok (.ifCond .eq 15, 3) := by decide +kernel
theorem dX7_run_8 : decode cX7_run 8 = .ok (.iload_n 2, 1) := by decide +kernel
theorem dX7_run_9 : decode cX7_run 9 = .ok (.i2l, 1) := by decide +kernel
theorem dX7_run_10 : decode cX7_run 10 = .ok (.lconst 0, 1) := by decide +kernel
theorem dX7_run_11 : decode cX7_run 11 = .ok (.ldc2_w 169, 3) := by decide +kernel
theorem dX7_run_14 : decode cX7_run 14 = .ok (.invokestatic 73, 3) := by decide +kernel
theorem dX7_run_17 : decode cX7_run 17 = .ok (.ifCond .ne 6, 3) := by decide +kernel
theorem dX7_run_20 : decode cX7_run 20 = .ok (.bipush (-2), 2) := by decide +kernel
theorem dX7_run_22 : decode cX7_run 22 = .ok (.ireturn, 1) := by decide +kernel
theorem dX7_run_23 : decode cX7_run 23 = .ok (.aload_n 0, 1) := by decide +kernel
theorem dX7_run_24 : decode cX7_run 24 = .ok (.iload_n 1, 1) := by decide +kernel
theorem dX7_run_25 : decode cX7_run 25 = .ok (.invokevirtual 158, 3) := by decide +kernel
theorem dX7_run_28 : decode cX7_run 28 = .ok (.aload_n 0, 1) := by decide +kernel
theorem dX7_run_29 : decode cX7_run 29 = .ok (.invokevirtual 161, 3) := by decide +kernel
theorem dX7_run_32 : decode cX7_run 32 = .ok (.lstore_n 3, 1) := by decide +kernel
theorem dX7_run_33 : decode cX7_run 33 = .ok (.lload_n 3, 1) := by decide +kernel
theorem dX7_run_34 : decode cX7_run 34 = .ok (.lconst 0, 1) := by decide +kernel
theorem dX7_run_35 : decode cX7_run 35 = .ok (.lcmp, 1) := by decide +kernel
theorem dX7_run_36 : decode cX7_run 36 = .ok (.ifCond .lt 11, 3) := by decide +kernel
theorem dX7_run_39 : decode cX7_run 39 = .ok (.lload_n 3, 1) := by decide +kernel
theorem dX7_run_40 : decode cX7_run 40 = .ok (.ldc2_w 125, 3) := by decide +kernel
theorem dX7_run_43 : decode cX7_run 43 = .ok (.lcmp, 1) := by decide +kernel
theorem dX7_run_44 : decode cX7_run 44 = .ok (.ifCond .lt 6, 3) := by decide +kernel
theorem dX7_run_47 : decode cX7_run 47 = .ok (.bipush (-3), 2) := by decide +kernel
theorem dX7_run_49 : decode cX7_run 49 = .ok (.ireturn, 1) := by decide +kernel
theorem dX7_run_50 : decode cX7_run 50 = .ok (.iconst 0, 1) := by decide +kernel
theorem dX7_run_51 : decode cX7_run 51 = .ok (.istore 5, 2) := by decide +kernel
theorem dX7_run_53 : decode cX7_run 53 = .ok (.iload 5, 2) := by decide +kernel
theorem dX7_run_55 : decode cX7_run 55 = .ok (.iload_n 2, 1) := by decide +kernel
theorem dX7_run_56 : decode cX7_run 56 = .ok (.if_icmp .ge 54, 3) := by decide +kernel
theorem dX7_run_59 : decode cX7_run 59 = .ok (.lload_n 3, 1) := by decide +kernel
theorem dX7_run_60 : decode cX7_run 60 = .ok (.lconst 0, 1) := by decide +kernel
theorem dX7_run_61 : decode cX7_run 61 = .ok (.lcmp, 1) := by decide +kernel
theorem dX7_run_62 : decode cX7_run 62 = .ok (.ifCond .le 48, 3) := by decide +kernel
theorem dX7_run_65 : decode cX7_run 65 = .ok (.aload_n 0, 1) := by decide +kernel
theorem dX7_run_66 : decode cX7_run 66 = .ok (.lload_n 3, 1) := by decide +kernel
theorem dX7_run_67 : decode cX7_run 67 = .ok (.invokevirtual 165, 3) := by decide +kernel
theorem dX7_run_70 : decode cX7_run 70 = .ok (.istore 6, 2) := by decide +kernel
theorem dX7_run_72 : decode cX7_run 72 = .ok (.aload_n 0, 1) := by decide +kernel
theorem dX7_run_73 : decode cX7_run 73 = .ok (.getfield 85, 3) := by decide +kernel
theorem dX7_run_76 : decode cX7_run 76 = .ok (.iconst 1, 1) := by decide +kernel
theorem dX7_run_77 : decode cX7_run 77 = .ok (.isub, 1) := by decide +kernel
theorem dX7_run_78 : decode cX7_run 78 = .ok (.aload_n 0, 1) := by decide +kernel
theorem dX7_run_79 : decode cX7_run 79 = .ok (.iload 6, 2) := by decide +kernel
theorem dX7_run_81 : decode cX7_run 81 = .ok (.invokevirtual 98, 3) := by decide +kernel
theorem dX7_run_84 : decode cX7_run 84 = .ok (.iadd, 1) := by decide +kernel
theorem dX7_run_85 : decode cX7_run 85 = .ok (.bipush 60, 2) := by decide +kernel
theorem dX7_run_87 : decode cX7_run 87 = .ok (.if_icmp .le 6, 3) := by decide +kernel
theorem dX7_run_90 : decode cX7_run 90 = .ok (.iload 5, 2) := by decide +kernel
theorem dX7_run_92 : decode cX7_run 92 = .ok (.ireturn, 1) := by decide +kernel
theorem dX7_run_93 : decode cX7_run 93 = .ok (.aload_n 0, 1) := by decide +kernel
theorem dX7_run_94 : decode cX7_run 94 = .ok (.iload 6, 2) := by decide +kernel
theorem dX7_run_96 : decode cX7_run 96 = .ok (.invokevirtual 105, 3) := by decide +kernel
theorem dX7_run_99 : decode cX7_run 99 = .ok (.iinc 5 1, 3) := by decide +kernel
theorem dX7_run_102 : decode cX7_run 102 = .ok (.aload_n 0, 1) := by decide +kernel
theorem dX7_run_103 : decode cX7_run 103 = .ok (.invokevirtual 161, 3) := by decide +kernel
theorem dX7_run_106 : decode cX7_run 106 = .ok (.lstore_n 3, 1) := by decide +kernel
theorem dX7_run_107 : decode cX7_run 107 = .ok (.goto (-54), 3) := by decide +kernel
theorem dX7_run_110 : decode cX7_run 110 = .ok (.iload 5, 2) := by decide +kernel
theorem dX7_run_112 : decode cX7_run 112 = .ok (.ireturn, 1) := by decide +kernel
theorem dX7_pop_0 : decode cX7_pop 0 = .ok (.aload_n 0, 1) := by decide +kernel
theorem dX7_pop_1 : decode cX7_pop 1 = .ok (.iload_n 1, 1) := by decide +kernel
theorem dX7_pop_2 : decode cX7_pop 2 = .ok (.invokevirtual 91, 3) := by decide +kernel
theorem dX7_pop_5 : decode cX7_pop 5 = .ok (.ifCond .eq 19, 3) := by decide +kernel
theorem dX7_pop_8 : decode cX7_pop 8 = .ok (.aload_n 0, 1) := by decide +kernel
theorem dX7_pop_9 : decode cX7_pop 9 = .ok (.iload_n 2, 1) := by decide +kernel
theorem dX7_pop_10 : decode cX7_pop 10 = .ok (.invokevirtual 95, 3) := by decide +kernel
theorem dX7_pop_13 : decode cX7_pop 13 = .ok (.ifCond .eq 11, 3) := by decide +kernel
theorem dX7_pop_16 : decode cX7_pop 16 = .ok (.aload_n 0, 1) := by decide +kernel
theorem dX7_pop_17 : decode cX7_pop 17 = .ok (.iload_n 3, 1) := by decide +kernel
theorem dX7_pop_18 : decode cX7_pop 18 = .ok (.invokevirtual 91, 3) := by decide +kernel
theorem dX7_pop_21 : decode cX7_pop 21 = .ok (.ifCond .ne 7, 3) := by decide +kernel
theorem dX7_pop_24 : decode cX7_pop 24 = .ok (.ldc2_w 156, 3) := by decide +kernel
theorem dX7_pop_27 : decode cX7_pop 27 = .ok (.lreturn, 1) := by decide +kernel
theorem dX7_pop_28 : decode cX7_pop 28 = .ok (.aload_n 0, 1) := by decide +kernel
theorem dX7_pop_29 : decode cX7_pop 29 = .ok (.iconst (-1), 1) := by decide +kernel
theorem dX7_pop_30 : decode cX7_pop 30 = .ok (.invokevirtual 158, 3) := by decide +kernel
theorem dX7_pop_33 : decode cX7_pop 33 = .ok (.aload_n 0, 1) := by decide +kernel
theorem dX7_pop_34 : decode cX7_pop 34 = .ok (.getfield 51, 3) := by decide +kernel
theorem dX7_pop_37 : decode cX7_pop 37 = .ok (.iload_n 1, 1) := by decide +kernel
theorem dX7_pop_38 : decode cX7_pop 38 = .ok (.iload_n 2, 1) := by decide +kernel
theorem dX7_pop_39 : decode cX7_pop 39 = .ok (.iload_n 3, 1) := by decide +kernel
theorem dX7_pop_40 : decode cX7_pop 40 = .ok (.invokestatic 127, 3) := by decide +kernel
theorem dX7_pop_43 : decode cX7_pop 43 = .ok (.laload, 1) := by decide +kernel
theorem dX7_pop_44 : decode cX7_pop 44 = .ok (.lreturn, 1) := by decide +kernel
theorem dX7_headsBy_0 : decode cX7_headsBy 0 = .ok (.iconst 0, 1) := by decide +kernel
theorem dX7_headsBy_1 : decode cX7_headsBy 1 = .ok (.istore_n 2, 1) := by decide +kernel
theorem dX7_headsBy_2 : decode cX7_headsBy 2 = .ok (.aload_n 0, 1) := by decide +kernel
theorem dX7_headsBy_3 : decode cX7_headsBy 3 = .ok (.iload_n 1, 1) := by decide +kernel
theorem dX7_headsBy_4 : decode cX7_headsBy 4 = .ok (.invokevirtual 98, 3) := by decide +kernel
theorem dX7_headsBy_7 : decode cX7_headsBy 7 = .ok (.ifCond .le 23, 3) := by decide +kernel
theorem dX7_headsBy_10 : decode cX7_headsBy 10 = .ok (.iload_n 2, 1) := by decide +kernel
theorem dX7_headsBy_11 : decode cX7_headsBy 11 = .ok (.iconst 1, 1) := by decide +kernel
theorem dX7_headsBy_12 : decode cX7_headsBy 12 = .ok (.iconst 5, 1) := by decide +kernel
theorem dX7_headsBy_13 : decode cX7_headsBy 13 = .ok (.aload_n 0, 1) := by decide +kernel
theorem dX7_headsBy_14 : decode cX7_headsBy 14 = .ok (.getfield 23, 3) := by decide +kernel
theorem dX7_headsBy_17 : decode cX7_headsBy 17 = .ok (.iload_n 1, 1) := by decide +kernel
theorem dX7_headsBy_18 : decode cX7_headsBy 18 = .ok (.iaload, 1) := by decide +kernel
theorem dX7_headsBy_19 : decode cX7_headsBy 19 = .ok (.imul, 1) := by decide +kernel
theorem dX7_headsBy_20 : decode cX7_headsBy 20 = .ok (.aload_n 0, 1) := by decide +kernel
theorem dX7_headsBy_21 : decode cX7_headsBy 21 = .ok (.getfield 26, 3) := by decide +kernel
theorem dX7_headsBy_24 : decode cX7_headsBy 24 = .ok (.iload_n 1, 1) := by decide +kernel
theorem dX7_headsBy_25 : decode cX7_headsBy 25 = .ok (.iaload, 1) := by decide +kernel
theorem dX7_headsBy_26 : decode cX7_headsBy 26 = .ok (.iadd, 1) := by decide +kernel
theorem dX7_headsBy_27 : decode cX7_headsBy 27 = .ok (.ishl, 1) := by decide +kernel
theorem dX7_headsBy_28 : decode cX7_headsBy 28 = .ok (.ior, 1) := by decide +kernel
theorem dX7_headsBy_29 : decode cX7_headsBy 29 = .ok (.istore_n 2, 1) := by decide +kernel
theorem dX7_headsBy_30 : decode cX7_headsBy 30 = .ok (.iconst 0, 1) := by decide +kernel
theorem dX7_headsBy_31 : decode cX7_headsBy 31 = .ok (.istore_n 3, 1) := by decide +kernel
theorem dX7_headsBy_32 : decode cX7_headsBy 32 = .ok (.iload_n 3, 1) := by decide +kernel
theorem dX7_headsBy_33 : decode cX7_headsBy 33 = .ok (.aload_n 0, 1) := by decide +kernel
theorem dX7_headsBy_34 : decode cX7_headsBy 34 = .ok (.getfield 7, 3) := by decide +kernel
theorem dX7_headsBy_37 : decode cX7_headsBy 37 = .ok (.if_icmp .ge 63, 3) := by decide +kernel
theorem dX7_headsBy_40 : decode cX7_headsBy 40 = .ok (.aload_n 0, 1) := by decide +kernel
theorem dX7_headsBy_41 : decode cX7_headsBy 41 = .ok (.iload_n 1, 1) := by decide +kernel
theorem dX7_headsBy_42 : decode cX7_headsBy 42 = .ok (.invokevirtual 98, 3) := by decide +kernel
theorem dX7_headsBy_45 : decode cX7_headsBy 45 = .ok (.iconst 2, 1) := by decide +kernel
theorem dX7_headsBy_46 : decode cX7_headsBy 46 = .ok (.if_icmp .ne 54, 3) := by decide +kernel
theorem dX7_headsBy_49 : decode cX7_headsBy 49 = .ok (.iload_n 2, 1) := by decide +kernel
theorem dX7_headsBy_50 : decode cX7_headsBy 50 = .ok (.aload_n 0, 1) := by decide +kernel
theorem dX7_headsBy_51 : decode cX7_headsBy 51 = .ok (.getfield 51, 3) := by decide +kernel
theorem dX7_headsBy_54 : decode cX7_headsBy 54 = .ok (.aload_n 0, 1) := by decide +kernel
theorem dX7_headsBy_55 : decode cX7_headsBy 55 = .ok (.getfield 23, 3) := by decide +kernel
theorem dX7_headsBy_58 : decode cX7_headsBy 58 = .ok (.iload_n 1, 1) := by decide +kernel
theorem dX7_headsBy_59 : decode cX7_headsBy 59 = .ok (.iaload, 1) := by decide +kernel
theorem dX7_headsBy_60 : decode cX7_headsBy 60 = .ok (.aload_n 0, 1) := by decide +kernel
theorem dX7_headsBy_61 : decode cX7_headsBy 61 = .ok (.getfield 26, 3) := by decide +kernel
theorem dX7_headsBy_64 : decode cX7_headsBy 64 = .ok (.iload_n 1, 1) := by decide +kernel
theorem dX7_headsBy_65 : decode cX7_headsBy 65 = .ok (.iaload, 1) := by decide +kernel
theorem dX7_headsBy_66 : decode cX7_headsBy 66 = .ok (.iload_n 3, 1) := by decide +kernel
theorem dX7_headsBy_67 : decode cX7_headsBy 67 = .ok (.invokestatic 127, 3) := by decide +kernel
theorem dX7_headsBy_70 : decode cX7_headsBy 70 = .ok (.laload, 1) := by decide +kernel
theorem dX7_headsBy_71 : decode cX7_headsBy 71 = .ok (.lconst 0, 1) := by decide +kernel
theorem dX7_headsBy_72 : decode cX7_headsBy 72 = .ok (.lcmp, 1) := by decide +kernel
theorem dX7_headsBy_73 : decode cX7_headsBy 73 = .ok (.ifCond .lt 18, 3) := by decide +kernel
theorem dX7_headsBy_76 : decode cX7_headsBy 76 = .ok (.iconst 1, 1) := by decide +kernel
theorem dX7_headsBy_77 : decode cX7_headsBy 77 = .ok (.iconst 5, 1) := by decide +kernel
theorem dX7_headsBy_78 : decode cX7_headsBy 78 = .ok (.iload_n 3, 1) := by decide +kernel
theorem dX7_headsBy_79 : decode cX7_headsBy 79 = .ok (.imul, 1) := by decide +kernel
theorem dX7_headsBy_80 : decode cX7_headsBy 80 = .ok (.aload_n 0, 1) := by decide +kernel
theorem dX7_headsBy_81 : decode cX7_headsBy 81 = .ok (.getfield 29, 3) := by decide +kernel
theorem dX7_headsBy_84 : decode cX7_headsBy 84 = .ok (.iload_n 1, 1) := by decide +kernel
theorem dX7_headsBy_85 : decode cX7_headsBy 85 = .ok (.iaload, 1) := by decide +kernel
theorem dX7_headsBy_86 : decode cX7_headsBy 86 = .ok (.iadd, 1) := by decide +kernel
theorem dX7_headsBy_87 : decode cX7_headsBy 87 = .ok (.ishl, 1) := by decide +kernel
theorem dX7_headsBy_88 : decode cX7_headsBy 88 = .ok (.goto 4, 3) := by decide +kernel
theorem dX7_headsBy_91 : decode cX7_headsBy 91 = .ok (.iconst 0, 1) := by decide +kernel
theorem dX7_headsBy_92 : decode cX7_headsBy 92 = .ok (.ior, 1) := by decide +kernel
theorem dX7_headsBy_93 : decode cX7_headsBy 93 = .ok (.istore_n 2, 1) := by decide +kernel
theorem dX7_headsBy_94 : decode cX7_headsBy 94 = .ok (.iinc 3 1, 3) := by decide +kernel
theorem dX7_headsBy_97 : decode cX7_headsBy 97 = .ok (.goto (-65), 3) := by decide +kernel
theorem dX7_headsBy_100 : decode cX7_headsBy 100 = .ok (.iload_n 2, 1) := by decide +kernel
theorem dX7_headsBy_101 : decode cX7_headsBy 101 = .ok (.ireturn, 1) := by decide +kernel
theorem dX7_findReach_0 : decode cX7_findReach 0 = .ok (.iconst 0, 1) := by decide +kernel
theorem dX7_findReach_1 : decode cX7_findReach 1 = .ok (.istore_n 1, 1) := by decide +kernel
theorem dX7_findReach_2 : decode cX7_findReach 2 = .ok (.iload_n 1, 1) := by decide +kernel
theorem dX7_findReach_3 : decode cX7_findReach 3 = .ok (.bipush 25, 2) := by decide +kernel
theorem dX7_findReach_5 : decode cX7_findReach 5 = .ok (.if_icmp .ge 16, 3) := by decide +kernel
theorem dX7_findReach_8 : decode cX7_findReach 8 = .ok (.aload_n 0, 1) := by decide +kernel
theorem dX7_findReach_9 : decode cX7_findReach 9 = .ok (.getfield 67, 3) := by decide +kernel
theorem dX7_findReach_12 : decode cX7_findReach 12 = .ok (.iload_n 1, 1) := by decide +kernel
theorem dX7_findReach_13 : decode cX7_findReach 13 = .ok (.iconst 0, 1) := by decide +kernel
theorem dX7_findReach_14 : decode cX7_findReach 14 = .ok (.iastore, 1) := by decide +kernel
theorem dX7_findReach_15 : decode cX7_findReach 15 = .ok (.iinc 1 1, 3) := by decide +kernel
theorem dX7_findReach_18 : decode cX7_findReach 18 = .ok (.goto (-16), 3) := by decide +kernel
theorem dX7_findReach_21 : decode cX7_findReach 21 = .ok (.iconst 0, 1) := by decide +kernel
theorem dX7_findReach_22 : decode cX7_findReach 22 = .ok (.istore_n 1, 1) := by decide +kernel
theorem dX7_findReach_23 : decode cX7_findReach 23 = .ok (.iload_n 1, 1) := by decide +kernel
theorem dX7_findReach_24 : decode cX7_findReach 24 = .ok (.bipush 26, 2) := by decide +kernel
theorem dX7_findReach_26 : decode cX7_findReach 26 = .ok (.if_icmp .ge 106, 3) := by decide +kernel
theorem dX7_findReach_29 : decode cX7_findReach 29 = .ok (.iconst 0, 1) := by decide +kernel
theorem dX7_findReach_30 : decode cX7_findReach 30 = .ok (.istore_n 2, 1) := by decide +kernel
theorem dX7_findReach_31 : decode cX7_findReach 31 = .ok (.iload_n 2, 1) := by decide +kernel
theorem dX7_findReach_32 : decode cX7_findReach 32 = .ok (.aload_n 0, 1) := by decide +kernel
theorem dX7_findReach_33 : decode cX7_findReach 33 = .ok (.getfield 79, 3) := by decide +kernel
theorem dX7_findReach_36 : decode cX7_findReach 36 = .ok (.if_icmp .ge 90, 3) := by decide +kernel
theorem dX7_findReach_39 : decode cX7_findReach 39 = .ok (.iconst 5, 1) := by decide +kernel
theorem dX7_findReach_40 : decode cX7_findReach 40 = .ok (.aload_n 0, 1) := by decide +kernel
theorem dX7_findReach_41 : decode cX7_findReach 41 = .ok (.getfield 16, 3) := by decide +kernel
theorem dX7_findReach_44 : decode cX7_findReach 44 = .ok (.iload_n 2, 1) := by decide +kernel
theorem dX7_findReach_45 : decode cX7_findReach 45 = .ok (.iaload, 1) := by decide +kernel
theorem dX7_findReach_46 : decode cX7_findReach 46 = .ok (.imul, 1) := by decide +kernel
theorem dX7_findReach_47 : decode cX7_findReach 47 = .ok (.aload_n 0, 1) := by decide +kernel
theorem dX7_findReach_48 : decode cX7_findReach 48 = .ok (.getfield 20, 3) := by decide +kernel
theorem dX7_findReach_51 : decode cX7_findReach 51 = .ok (.iload_n 2, 1) := by decide +kernel
theorem dX7_findReach_52 : decode cX7_findReach 52 = .ok (.iaload, 1) := by decide +kernel
theorem dX7_findReach_53 : decode cX7_findReach 53 = .ok (.iadd, 1) := by decide +kernel
theorem dX7_findReach_54 : decode cX7_findReach 54 = .ok (.istore_n 3, 1) := by decide +kernel
theorem dX7_findReach_55 : decode cX7_findReach 55 = .ok (.aload_n 0, 1) := by decide +kernel
theorem dX7_findReach_56 : decode cX7_findReach 56 = .ok (.iload_n 2, 1) := by decide +kernel
theorem dX7_findReach_57 : decode cX7_findReach 57 = .ok (.invokevirtual 171, 3) := by decide +kernel
theorem dX7_findReach_60 : decode cX7_findReach 60 = .ok (.istore 4, 2) := by decide +kernel
theorem dX7_findReach_62 : decode cX7_findReach 62 = .ok (.aload_n 0, 1) := by decide +kernel
theorem dX7_findReach_63 : decode cX7_findReach 63 = .ok (.getfield 67, 3) := by decide +kernel
theorem dX7_findReach_66 : decode cX7_findReach 66 = .ok (.iload_n 3, 1) := by decide +kernel
theorem dX7_findReach_67 : decode cX7_findReach 67 = .ok (.dup2, 1) := by decide +kernel
theorem dX7_findReach_68 : decode cX7_findReach 68 = .ok (.iaload, 1) := by decide +kernel
theorem dX7_findReach_69 : decode cX7_findReach 69 = .ok (.iload 4, 2) := by decide +kernel
theorem dX7_findReach_71 : decode cX7_findReach 71 = .ok (.ior, 1) := by decide +kernel
theorem dX7_findReach_72 : decode cX7_findReach 72 = .ok (.iastore, 1) := by decide +kernel
theorem dX7_findReach_73 : decode cX7_findReach 73 = .ok (.iconst 0, 1) := by decide +kernel
theorem dX7_findReach_74 : decode cX7_findReach 74 = .ok (.istore 5, 2) := by decide +kernel
theorem dX7_findReach_76 : decode cX7_findReach 76 = .ok (.iload 5, 2) := by decide +kernel
theorem dX7_findReach_78 : decode cX7_findReach 78 = .ok (.bipush 25, 2) := by decide +kernel
theorem dX7_findReach_80 : decode cX7_findReach 80 = .ok (.if_icmp .ge 40, 3) := by decide +kernel
theorem dX7_findReach_83 : decode cX7_findReach 83 = .ok (.aload_n 0, 1) := by decide +kernel
theorem dX7_findReach_84 : decode cX7_findReach 84 = .ok (.getfield 67, 3) := by decide +kernel
theorem dX7_findReach_87 : decode cX7_findReach 87 = .ok (.iload_n 3, 1) := by decide +kernel
theorem dX7_findReach_88 : decode cX7_findReach 88 = .ok (.dup2, 1) := by decide +kernel
theorem dX7_findReach_89 : decode cX7_findReach 89 = .ok (.iaload, 1) := by decide +kernel
theorem dX7_findReach_90 : decode cX7_findReach 90 = .ok (.iload 4, 2) := by decide +kernel
theorem dX7_findReach_92 : decode cX7_findReach 92 = .ok (.iload 5, 2) := by decide +kernel
theorem dX7_findReach_94 : decode cX7_findReach 94 = .ok (.ishr, 1) := by decide +kernel
theorem dX7_findReach_95 : decode cX7_findReach 95 = .ok (.iconst 1, 1) := by decide +kernel
theorem dX7_findReach_96 : decode cX7_findReach 96 = .ok (.iand, 1) := by decide +kernel
theorem dX7_findReach_97 : decode cX7_findReach 97 = .ok (.iconst 1, 1) := by decide +kernel
theorem dX7_findReach_98 : decode cX7_findReach 98 = .ok (.if_icmp .ne 13, 3) := by decide +kernel
theorem dX7_findReach_101 : decode cX7_findReach 101 = .ok (.aload_n 0, 1) := by decide +kernel
theorem dX7_findReach_102 : decode cX7_findReach 102 = .ok (.getfield 67, 3) := by decide +kernel
theorem dX7_findReach_105 : decode cX7_findReach 105 = .ok (.iload 5, 2) := by decide +kernel
theorem dX7_findReach_107 : decode cX7_findReach 107 = .ok (.iaload, 1) := by decide +kernel
theorem dX7_findReach_108 : decode cX7_findReach 108 = .ok (.goto 4, 3) := by decide +kernel
theorem dX7_findReach_111 : decode cX7_findReach 111 = .ok (.iconst 0, 1) := by decide +kernel
theorem dX7_findReach_112 : decode cX7_findReach 112 = .ok (.ior, 1) := by decide +kernel
theorem dX7_findReach_113 : decode cX7_findReach 113 = .ok (.iastore, 1) := by decide +kernel
theorem dX7_findReach_114 : decode cX7_findReach 114 = .ok (.iinc 5 1, 3) := by decide +kernel
theorem dX7_findReach_117 : decode cX7_findReach 117 = .ok (.goto (-41), 3) := by decide +kernel
theorem dX7_findReach_120 : decode cX7_findReach 120 = .ok (.iinc 2 1, 3) := by decide +kernel
theorem dX7_findReach_123 : decode cX7_findReach 123 = .ok (.goto (-92), 3) := by decide +kernel
theorem dX7_findReach_126 : decode cX7_findReach 126 = .ok (.iinc 1 1, 3) := by decide +kernel
theorem dX7_findReach_129 : decode cX7_findReach 129 = .ok (.goto (-106), 3) := by decide +kernel
theorem dX7_findReach_132 : decode cX7_findReach 132 = .ok (.return_, 1) := by decide +kernel
theorem dX7_isForEver_0 : decode cX7_isForEver 0 = .ok (.aload_n 0, 1) := by decide +kernel
theorem dX7_isForEver_1 : decode cX7_isForEver 1 = .ok (.getfield 67, 3) := by decide +kernel
theorem dX7_isForEver_4 : decode cX7_isForEver 4 = .ok (.iload_n 1, 1) := by decide +kernel
theorem dX7_isForEver_5 : decode cX7_isForEver 5 = .ok (.iaload, 1) := by decide +kernel
theorem dX7_isForEver_6 : decode cX7_isForEver 6 = .ok (.iload_n 1, 1) := by decide +kernel
theorem dX7_isForEver_7 : decode cX7_isForEver 7 = .ok (.ishr, 1) := by decide +kernel
theorem dX7_isForEver_8 : decode cX7_isForEver 8 = .ok (.iconst 1, 1) := by decide +kernel
theorem dX7_isForEver_9 : decode cX7_isForEver 9 = .ok (.iand, 1) := by decide +kernel
theorem dX7_isForEver_10 : decode cX7_isForEver 10 = .ok (.iconst 1, 1) := by decide +kernel
theorem dX7_isForEver_11 : decode cX7_isForEver 11 = .ok (.if_icmp .ne 7, 3) := by decide +kernel
theorem dX7_isForEver_14 : decode cX7_isForEver 14 = .ok (.iconst 1, 1) := by decide +kernel
theorem dX7_isForEver_15 : decode cX7_isForEver 15 = .ok (.goto 4, 3) := by decide +kernel
theorem dX7_isForEver_18 : decode cX7_isForEver 18 = .ok (.iconst 0, 1) := by decide +kernel
theorem dX7_isForEver_19 : decode cX7_isForEver 19 = .ok (.istore_n 2, 1) := by decide +kernel
theorem dX7_isForEver_20 : decode cX7_isForEver 20 = .ok (.iconst 0, 1) := by decide +kernel
theorem dX7_isForEver_21 : decode cX7_isForEver 21 = .ok (.istore_n 3, 1) := by decide +kernel
theorem dX7_isForEver_22 : decode cX7_isForEver 22 = .ok (.iload_n 3, 1) := by decide +kernel
theorem dX7_isForEver_23 : decode cX7_isForEver 23 = .ok (.bipush 25, 2) := by decide +kernel
theorem dX7_isForEver_25 : decode cX7_isForEver 25 = .ok (.if_icmp .ge 47, 3) := by decide +kernel
theorem dX7_isForEver_28 : decode cX7_isForEver 28 = .ok (.iload_n 2, 1) := by decide +kernel
theorem dX7_isForEver_29 : decode cX7_isForEver 29 = .ok (.ifCond .ne 31, 3) := by decide +kernel
theorem dX7_isForEver_32 : decode cX7_isForEver 32 = .ok (.aload_n 0, 1) := by decide +kernel
theorem dX7_isForEver_33 : decode cX7_isForEver 33 = .ok (.getfield 67, 3) := by decide +kernel
theorem dX7_isForEver_36 : decode cX7_isForEver 36 = .ok (.iload_n 1, 1) := by decide +kernel
theorem dX7_isForEver_37 : decode cX7_isForEver 37 = .ok (.iaload, 1) := by decide +kernel
theorem dX7_isForEver_38 : decode cX7_isForEver 38 = .ok (.iload_n 3, 1) := by decide +kernel
theorem dX7_isForEver_39 : decode cX7_isForEver 39 = .ok (.ishr, 1) := by decide +kernel
theorem dX7_isForEver_40 : decode cX7_isForEver 40 = .ok (.iconst 1, 1) := by decide +kernel
theorem dX7_isForEver_41 : decode cX7_isForEver 41 = .ok (.iand, 1) := by decide +kernel
theorem dX7_isForEver_42 : decode cX7_isForEver 42 = .ok (.iconst 1, 1) := by decide +kernel
theorem dX7_isForEver_43 : decode cX7_isForEver 43 = .ok (.if_icmp .ne 21, 3) := by decide +kernel
theorem dX7_isForEver_46 : decode cX7_isForEver 46 = .ok (.aload_n 0, 1) := by decide +kernel
theorem dX7_isForEver_47 : decode cX7_isForEver 47 = .ok (.getfield 67, 3) := by decide +kernel
theorem dX7_isForEver_50 : decode cX7_isForEver 50 = .ok (.iload_n 3, 1) := by decide +kernel
theorem dX7_isForEver_51 : decode cX7_isForEver 51 = .ok (.iaload, 1) := by decide +kernel
theorem dX7_isForEver_52 : decode cX7_isForEver 52 = .ok (.iload_n 3, 1) := by decide +kernel
theorem dX7_isForEver_53 : decode cX7_isForEver 53 = .ok (.ishr, 1) := by decide +kernel
theorem dX7_isForEver_54 : decode cX7_isForEver 54 = .ok (.iconst 1, 1) := by decide +kernel
theorem dX7_isForEver_55 : decode cX7_isForEver 55 = .ok (.iand, 1) := by decide +kernel
theorem dX7_isForEver_56 : decode cX7_isForEver 56 = .ok (.iconst 1, 1) := by decide +kernel
theorem dX7_isForEver_57 : decode cX7_isForEver 57 = .ok (.if_icmp .ne 7, 3) := by decide +kernel
theorem dX7_isForEver_60 : decode cX7_isForEver 60 = .ok (.iconst 1, 1) := by decide +kernel
theorem dX7_isForEver_61 : decode cX7_isForEver 61 = .ok (.goto 4, 3) := by decide +kernel
theorem dX7_isForEver_64 : decode cX7_isForEver 64 = .ok (.iconst 0, 1) := by decide +kernel
theorem dX7_isForEver_65 : decode cX7_isForEver 65 = .ok (.istore_n 2, 1) := by decide +kernel
theorem dX7_isForEver_66 : decode cX7_isForEver 66 = .ok (.iinc 3 1, 3) := by decide +kernel
theorem dX7_isForEver_69 : decode cX7_isForEver 69 = .ok (.goto (-47), 3) := by decide +kernel
theorem dX7_isForEver_72 : decode cX7_isForEver 72 = .ok (.iload_n 2, 1) := by decide +kernel
theorem dX7_isForEver_73 : decode cX7_isForEver 73 = .ok (.ireturn, 1) := by decide +kernel
theorem dX7_popped_0 : decode cX7_popped 0 = .ok (.iconst 0, 1) := by decide +kernel
theorem dX7_popped_1 : decode cX7_popped 1 = .ok (.istore_n 3, 1) := by decide +kernel
theorem dX7_popped_2 : decode cX7_popped 2 = .ok (.iconst 0, 1) := by decide +kernel
theorem dX7_popped_3 : decode cX7_popped 3 = .ok (.istore 4, 2) := by decide +kernel
theorem dX7_popped_5 : decode cX7_popped 5 = .ok (.iload 4, 2) := by decide +kernel
theorem dX7_popped_7 : decode cX7_popped 7 = .ok (.aload_n 0, 1) := by decide +kernel
theorem dX7_popped_8 : decode cX7_popped 8 = .ok (.getfield 7, 3) := by decide +kernel
theorem dX7_popped_11 : decode cX7_popped 11 = .ok (.if_icmp .ge 66, 3) := by decide +kernel
theorem dX7_popped_14 : decode cX7_popped 14 = .ok (.iconst 0, 1) := by decide +kernel
theorem dX7_popped_15 : decode cX7_popped 15 = .ok (.istore 5, 2) := by decide +kernel
theorem dX7_popped_17 : decode cX7_popped 17 = .ok (.iload 5, 2) := by decide +kernel
theorem dX7_popped_19 : decode cX7_popped 19 = .ok (.aload_n 0, 1) := by decide +kernel
theorem dX7_popped_20 : decode cX7_popped 20 = .ok (.getfield 7, 3) := by decide +kernel
theorem dX7_popped_23 : decode cX7_popped 23 = .ok (.if_icmp .ge 48, 3) := by decide +kernel
theorem dX7_popped_26 : decode cX7_popped 26 = .ok (.iload_n 1, 1) := by decide +kernel
theorem dX7_popped_27 : decode cX7_popped 27 = .ok (.iload 4, 2) := by decide +kernel
theorem dX7_popped_29 : decode cX7_popped 29 = .ok (.ishr, 1) := by decide +kernel
theorem dX7_popped_30 : decode cX7_popped 30 = .ok (.iconst 1, 1) := by decide +kernel
theorem dX7_popped_31 : decode cX7_popped 31 = .ok (.iand, 1) := by decide +kernel
theorem dX7_popped_32 : decode cX7_popped 32 = .ok (.iconst 1, 1) := by decide +kernel
theorem dX7_popped_33 : decode cX7_popped 33 = .ok (.if_icmp .ne 38, 3) := by decide +kernel
theorem dX7_popped_36 : decode cX7_popped 36 = .ok (.iload_n 3, 1) := by decide +kernel
theorem dX7_popped_37 : decode cX7_popped 37 = .ok (.aload_n 0, 1) := by decide +kernel
theorem dX7_popped_38 : decode cX7_popped 38 = .ok (.getfield 51, 3) := by decide +kernel
theorem dX7_popped_41 : decode cX7_popped 41 = .ok (.iload 4, 2) := by decide +kernel
theorem dX7_popped_43 : decode cX7_popped 43 = .ok (.iload_n 2, 1) := by decide +kernel
theorem dX7_popped_44 : decode cX7_popped 44 = .ok (.iload 5, 2) := by decide +kernel
theorem dX7_popped_46 : decode cX7_popped 46 = .ok (.invokestatic 127, 3) := by decide +kernel
theorem dX7_popped_49 : decode cX7_popped 49 = .ok (.laload, 1) := by decide +kernel
theorem dX7_popped_50 : decode cX7_popped 50 = .ok (.lconst 0, 1) := by decide +kernel
theorem dX7_popped_51 : decode cX7_popped 51 = .ok (.lcmp, 1) := by decide +kernel
theorem dX7_popped_52 : decode cX7_popped 52 = .ok (.ifCond .lt 10, 3) := by decide +kernel
theorem dX7_popped_55 : decode cX7_popped 55 = .ok (.iconst 1, 1) := by decide +kernel
theorem dX7_popped_56 : decode cX7_popped 56 = .ok (.iload 5, 2) := by decide +kernel
theorem dX7_popped_58 : decode cX7_popped 58 = .ok (.ishl, 1) := by decide +kernel
theorem dX7_popped_59 : decode cX7_popped 59 = .ok (.goto 4, 3) := by decide +kernel
theorem dX7_popped_62 : decode cX7_popped 62 = .ok (.iconst 0, 1) := by decide +kernel
theorem dX7_popped_63 : decode cX7_popped 63 = .ok (.ior, 1) := by decide +kernel
theorem dX7_popped_64 : decode cX7_popped 64 = .ok (.istore_n 3, 1) := by decide +kernel
theorem dX7_popped_65 : decode cX7_popped 65 = .ok (.iinc 5 1, 3) := by decide +kernel
theorem dX7_popped_68 : decode cX7_popped 68 = .ok (.goto (-51), 3) := by decide +kernel
theorem dX7_popped_71 : decode cX7_popped 71 = .ok (.iinc 4 1, 3) := by decide +kernel
theorem dX7_popped_74 : decode cX7_popped 74 = .ok (.goto (-69), 3) := by decide +kernel
theorem dX7_popped_77 : decode cX7_popped 77 = .ok (.iload_n 3, 1) := by decide +kernel
theorem dX7_popped_78 : decode cX7_popped 78 = .ok (.ireturn, 1) := by decide +kernel
theorem dX7_endless_0 : decode cX7_endless 0 = .ok (.aload_n 0, 1) := by decide +kernel
theorem dX7_endless_1 : decode cX7_endless 1 = .ok (.iconst (-1), 1) := by decide +kernel
theorem dX7_endless_2 : decode cX7_endless 2 = .ok (.invokevirtual 158, 3) := by decide +kernel
theorem dX7_endless_5 : decode cX7_endless 5 = .ok (.aload_n 0, 1) := by decide +kernel
theorem dX7_endless_6 : decode cX7_endless 6 = .ok (.invokevirtual 174, 3) := by decide +kernel
theorem dX7_endless_9 : decode cX7_endless 9 = .ok (.iconst 1, 1) := by decide +kernel
theorem dX7_endless_10 : decode cX7_endless 10 = .ok (.aload_n 0, 1) := by decide +kernel
theorem dX7_endless_11 : decode cX7_endless 11 = .ok (.getfield 82, 3) := by decide +kernel
theorem dX7_endless_14 : decode cX7_endless 14 = .ok (.ishl, 1) := by decide +kernel
theorem dX7_endless_15 : decode cX7_endless 15 = .ok (.istore_n 1, 1) := by decide +kernel
theorem dX7_endless_16 : decode cX7_endless 16 = .ok (.iconst 0, 1) := by decide +kernel
theorem dX7_endless_17 : decode cX7_endless 17 = .ok (.istore_n 2, 1) := by decide +kernel
theorem dX7_endless_18 : decode cX7_endless 18 = .ok (.aload_n 0, 1) := by decide +kernel
theorem dX7_endless_19 : decode cX7_endless 19 = .ok (.getfield 85, 3) := by decide +kernel
theorem dX7_endless_22 : decode cX7_endless 22 = .ok (.iconst 1, 1) := by decide +kernel
theorem dX7_endless_23 : decode cX7_endless 23 = .ok (.isub, 1) := by decide +kernel
theorem dX7_endless_24 : decode cX7_endless 24 = .ok (.istore_n 3, 1) := by decide +kernel
theorem dX7_endless_25 : decode cX7_endless 25 = .ok (.iload_n 3, 1) := by decide +kernel
theorem dX7_endless_26 : decode cX7_endless 26 = .ok (.ifCond .lt 77, 3) := by decide +kernel
theorem dX7_endless_29 : decode cX7_endless 29 = .ok (.iconst 0, 1) := by decide +kernel
theorem dX7_endless_30 : decode cX7_endless 30 = .ok (.istore 4, 2) := by decide +kernel
theorem dX7_endless_32 : decode cX7_endless 32 = .ok (.iload 4, 2) := by decide +kernel
theorem dX7_endless_34 : decode cX7_endless 34 = .ok (.aload_n 0, 1) := by decide +kernel
theorem dX7_endless_35 : decode cX7_endless 35 = .ok (.getfield 7, 3) := by decide +kernel
theorem dX7_endless_38 : decode cX7_endless 38 = .ok (.if_icmp .ge 47, 3) := by decide +kernel
theorem dX7_endless_41 : decode cX7_endless 41 = .ok (.iload_n 2, 1) := by decide +kernel
theorem dX7_endless_42 : decode cX7_endless 42 = .ok (.ifCond .ne 31, 3) := by decide +kernel
theorem dX7_endless_45 : decode cX7_endless 45 = .ok (.iload_n 1, 1) := by decide +kernel
theorem dX7_endless_46 : decode cX7_endless 46 = .ok (.iload 4, 2) := by decide +kernel
theorem dX7_endless_48 : decode cX7_endless 48 = .ok (.ishr, 1) := by decide +kernel
theorem dX7_endless_49 : decode cX7_endless 49 = .ok (.iconst 1, 1) := by decide +kernel
theorem dX7_endless_50 : decode cX7_endless 50 = .ok (.iand, 1) := by decide +kernel
theorem dX7_endless_51 : decode cX7_endless 51 = .ok (.iconst 1, 1) := by decide +kernel
theorem dX7_endless_52 : decode cX7_endless 52 = .ok (.if_icmp .ne 25, 3) := by decide +kernel
theorem dX7_endless_55 : decode cX7_endless 55 = .ok (.aload_n 0, 1) := by decide +kernel
theorem dX7_endless_56 : decode cX7_endless 56 = .ok (.iconst 5, 1) := by decide +kernel
theorem dX7_endless_57 : decode cX7_endless 57 = .ok (.iload 4, 2) := by decide +kernel
theorem dX7_endless_59 : decode cX7_endless 59 = .ok (.imul, 1) := by decide +kernel
theorem dX7_endless_60 : decode cX7_endless 60 = .ok (.aload_n 0, 1) := by decide +kernel
theorem dX7_endless_61 : decode cX7_endless 61 = .ok (.getfield 32, 3) := by decide +kernel
theorem dX7_endless_64 : decode cX7_endless 64 = .ok (.iload_n 3, 1) := by decide +kernel
theorem dX7_endless_65 : decode cX7_endless 65 = .ok (.iaload, 1) := by decide +kernel
theorem dX7_endless_66 : decode cX7_endless 66 = .ok (.iadd, 1) := by decide +kernel
theorem dX7_endless_67 : decode cX7_endless 67 = .ok (.invokevirtual 177, 3) := by decide +kernel
theorem dX7_endless_70 : decode cX7_endless 70 = .ok (.ifCond .eq 7, 3) := by decide +kernel
theorem dX7_endless_73 : decode cX7_endless 73 = .ok (.iconst 1, 1) := by decide +kernel
theorem dX7_endless_74 : decode cX7_endless 74 = .ok (.goto 4, 3) := by decide +kernel
theorem dX7_endless_77 : decode cX7_endless 77 = .ok (.iconst 0, 1) := by decide +kernel
theorem dX7_endless_78 : decode cX7_endless 78 = .ok (.istore_n 2, 1) := by decide +kernel
theorem dX7_endless_79 : decode cX7_endless 79 = .ok (.iinc 4 1, 3) := by decide +kernel
theorem dX7_endless_82 : decode cX7_endless 82 = .ok (.goto (-50), 3) := by decide +kernel
theorem dX7_endless_85 : decode cX7_endless 85 = .ok (.aload_n 0, 1) := by decide +kernel
theorem dX7_endless_86 : decode cX7_endless 86 = .ok (.iload_n 1, 1) := by decide +kernel
theorem dX7_endless_87 : decode cX7_endless 87 = .ok (.aload_n 0, 1) := by decide +kernel
theorem dX7_endless_88 : decode cX7_endless 88 = .ok (.getfield 32, 3) := by decide +kernel
theorem dX7_endless_91 : decode cX7_endless 91 = .ok (.iload_n 3, 1) := by decide +kernel
theorem dX7_endless_92 : decode cX7_endless 92 = .ok (.iaload, 1) := by decide +kernel
theorem dX7_endless_93 : decode cX7_endless 93 = .ok (.invokevirtual 180, 3) := by decide +kernel
theorem dX7_endless_96 : decode cX7_endless 96 = .ok (.istore_n 1, 1) := by decide +kernel
theorem dX7_endless_97 : decode cX7_endless 97 = .ok (.iinc 3 (-1), 3) := by decide +kernel
theorem dX7_endless_100 : decode cX7_endless 100 = .ok (.goto (-75), 3) := by decide +kernel
theorem dX7_endless_103 : decode cX7_endless 103 = .ok (.iload_n 2, 1) := by decide +kernel
theorem dX7_endless_104 : decode cX7_endless 104 = .ok (.ifCond .eq 7, 3) := by decide +kernel
theorem dX7_endless_107 : decode cX7_endless 107 = .ok (.iconst 1, 1) := by decide +kernel
theorem dX7_endless_108 : decode cX7_endless 108 = .ok (.goto 4, 3) := by decide +kernel
theorem dX7_endless_111 : decode cX7_endless 111 = .ok (.iconst 0, 1) := by decide +kernel
theorem dX7_endless_112 : decode cX7_endless 112 = .ok (.ireturn, 1) := by decide +kernel
theorem dX7_findHigh_0 : decode cX7_findHigh 0 = .ok (.iconst 0, 1) := by decide +kernel
theorem dX7_findHigh_1 : decode cX7_findHigh 1 = .ok (.istore_n 1, 1) := by decide +kernel
theorem dX7_findHigh_2 : decode cX7_findHigh 2 = .ok (.iload_n 1, 1) := by decide +kernel
theorem dX7_findHigh_3 : decode cX7_findHigh 3 = .ok (.bipush 25, 2) := by decide +kernel
theorem dX7_findHigh_5 : decode cX7_findHigh 5 = .ok (.if_icmp .ge 16, 3) := by decide +kernel
theorem dX7_findHigh_8 : decode cX7_findHigh 8 = .ok (.aload_n 0, 1) := by decide +kernel
theorem dX7_findHigh_9 : decode cX7_findHigh 9 = .ok (.getfield 70, 3) := by decide +kernel
theorem dX7_findHigh_12 : decode cX7_findHigh 12 = .ok (.iload_n 1, 1) := by decide +kernel
theorem dX7_findHigh_13 : decode cX7_findHigh 13 = .ok (.iconst 1, 1) := by decide +kernel
theorem dX7_findHigh_14 : decode cX7_findHigh 14 = .ok (.iastore, 1) := by decide +kernel
theorem dX7_findHigh_15 : decode cX7_findHigh 15 = .ok (.iinc 1 1, 3) := by decide +kernel
theorem dX7_findHigh_18 : decode cX7_findHigh 18 = .ok (.goto (-16), 3) := by decide +kernel
theorem dX7_findHigh_21 : decode cX7_findHigh 21 = .ok (.iconst 0, 1) := by decide +kernel
theorem dX7_findHigh_22 : decode cX7_findHigh 22 = .ok (.istore_n 1, 1) := by decide +kernel
theorem dX7_findHigh_23 : decode cX7_findHigh 23 = .ok (.iload_n 1, 1) := by decide +kernel
theorem dX7_findHigh_24 : decode cX7_findHigh 24 = .ok (.sipush 1000, 3) := by decide +kernel
theorem dX7_findHigh_27 : decode cX7_findHigh 27 = .ok (.if_icmp .ge 189, 3) := by decide +kernel
theorem dX7_findHigh_30 : decode cX7_findHigh 30 = .ok (.iconst 0, 1) := by decide +kernel
theorem dX7_findHigh_31 : decode cX7_findHigh 31 = .ok (.istore_n 2, 1) := by decide +kernel
theorem dX7_findHigh_32 : decode cX7_findHigh 32 = .ok (.iload_n 2, 1) := by decide +kernel
theorem dX7_findHigh_33 : decode cX7_findHigh 33 = .ok (.aload_n 0, 1) := by decide +kernel
theorem dX7_findHigh_34 : decode cX7_findHigh 34 = .ok (.getfield 79, 3) := by decide +kernel
theorem dX7_findHigh_37 : decode cX7_findHigh 37 = .ok (.if_icmp .ge 173, 3) := by decide +kernel
theorem dX7_findHigh_40 : decode cX7_findHigh 40 = .ok (.iconst 5, 1) := by decide +kernel
theorem dX7_findHigh_41 : decode cX7_findHigh 41 = .ok (.aload_n 0, 1) := by decide +kernel
theorem dX7_findHigh_42 : decode cX7_findHigh 42 = .ok (.getfield 16, 3) := by decide +kernel
theorem dX7_findHigh_45 : decode cX7_findHigh 45 = .ok (.iload_n 2, 1) := by decide +kernel
theorem dX7_findHigh_46 : decode cX7_findHigh 46 = .ok (.iaload, 1) := by decide +kernel
theorem dX7_findHigh_47 : decode cX7_findHigh 47 = .ok (.imul, 1) := by decide +kernel
theorem dX7_findHigh_48 : decode cX7_findHigh 48 = .ok (.aload_n 0, 1) := by decide +kernel
theorem dX7_findHigh_49 : decode cX7_findHigh 49 = .ok (.getfield 20, 3) := by decide +kernel
theorem dX7_findHigh_52 : decode cX7_findHigh 52 = .ok (.iload_n 2, 1) := by decide +kernel
theorem dX7_findHigh_53 : decode cX7_findHigh 53 = .ok (.iaload, 1) := by decide +kernel
theorem dX7_findHigh_54 : decode cX7_findHigh 54 = .ok (.iadd, 1) := by decide +kernel
theorem dX7_findHigh_55 : decode cX7_findHigh 55 = .ok (.istore_n 3, 1) := by decide +kernel
theorem dX7_findHigh_56 : decode cX7_findHigh 56 = .ok (.aload_n 0, 1) := by decide +kernel
theorem dX7_findHigh_57 : decode cX7_findHigh 57 = .ok (.iload_n 2, 1) := by decide +kernel
theorem dX7_findHigh_58 : decode cX7_findHigh 58 = .ok (.invokevirtual 171, 3) := by decide +kernel
theorem dX7_findHigh_61 : decode cX7_findHigh 61 = .ok (.istore 4, 2) := by decide +kernel
theorem dX7_findHigh_63 : decode cX7_findHigh 63 = .ok (.aload_n 0, 1) := by decide +kernel
theorem dX7_findHigh_64 : decode cX7_findHigh 64 = .ok (.iload_n 2, 1) := by decide +kernel
theorem dX7_findHigh_65 : decode cX7_findHigh 65 = .ok (.invokevirtual 98, 3) := by decide +kernel
theorem dX7_findHigh_68 : decode cX7_findHigh 68 = .ok (.ifCond .le 21, 3) := by decide +kernel
theorem dX7_findHigh_71 : decode cX7_findHigh 71 = .ok (.iconst 5, 1) := by decide +kernel
theorem dX7_findHigh_72 : decode cX7_findHigh 72 = .ok (.aload_n 0, 1) := by decide +kernel
theorem dX7_findHigh_73 : decode cX7_findHigh 73 = .ok (.getfield 23, 3) := by decide +kernel
theorem dX7_findHigh_76 : decode cX7_findHigh 76 = .ok (.iload_n 2, 1) := by decide +kernel
theorem dX7_findHigh_77 : decode cX7_findHigh 77 = .ok (.iaload, 1) := by decide +kernel
theorem dX7_findHigh_78 : decode cX7_findHigh 78 = .ok (.imul, 1) := by decide +kernel
theorem dX7_findHigh_79 : decode cX7_findHigh 79 = .ok (.aload_n 0, 1) := by decide +kernel
theorem dX7_findHigh_80 : decode cX7_findHigh 80 = .ok (.getfield 26, 3) := by decide +kernel
theorem dX7_findHigh_83 : decode cX7_findHigh 83 = .ok (.iload_n 2, 1) := by decide +kernel
theorem dX7_findHigh_84 : decode cX7_findHigh 84 = .ok (.iaload, 1) := by decide +kernel
theorem dX7_findHigh_85 : decode cX7_findHigh 85 = .ok (.iadd, 1) := by decide +kernel
theorem dX7_findHigh_86 : decode cX7_findHigh 86 = .ok (.goto 4, 3) := by decide +kernel
theorem dX7_findHigh_89 : decode cX7_findHigh 89 = .ok (.iconst (-1), 1) := by decide +kernel
theorem dX7_findHigh_90 : decode cX7_findHigh 90 = .ok (.istore 5, 2) := by decide +kernel
theorem dX7_findHigh_92 : decode cX7_findHigh 92 = .ok (.aload_n 0, 1) := by decide +kernel
theorem dX7_findHigh_93 : decode cX7_findHigh 93 = .ok (.getfield 70, 3) := by decide +kernel
theorem dX7_findHigh_96 : decode cX7_findHigh 96 = .ok (.iload_n 3, 1) := by decide +kernel
theorem dX7_findHigh_97 : decode cX7_findHigh 97 = .ok (.iaload, 1) := by decide +kernel
theorem dX7_findHigh_98 : decode cX7_findHigh 98 = .ok (.istore 6, 2) := by decide +kernel
theorem dX7_findHigh_100 : decode cX7_findHigh 100 = .ok (.iconst 0, 1) := by decide +kernel
theorem dX7_findHigh_101 : decode cX7_findHigh 101 = .ok (.istore 7, 2) := by decide +kernel
theorem dX7_findHigh_103 : decode cX7_findHigh 103 = .ok (.iload 7, 2) := by decide +kernel
theorem dX7_findHigh_105 : decode cX7_findHigh 105 = .ok (.bipush 25, 2) := by decide +kernel
theorem dX7_findHigh_107 : decode cX7_findHigh 107 = .ok (.if_icmp .ge 75, 3) := by decide +kernel
theorem dX7_findHigh_110 : decode cX7_findHigh 110 = .ok (.iload 4, 2) := by decide +kernel
theorem dX7_findHigh_112 : decode cX7_findHigh 112 = .ok (.iload 7, 2) := by decide +kernel
theorem dX7_findHigh_114 : decode cX7_findHigh 114 = .ok (.ishr, 1) := by decide +kernel
theorem dX7_findHigh_115 : decode cX7_findHigh 115 = .ok (.iconst 1, 1) := by decide +kernel
theorem dX7_findHigh_116 : decode cX7_findHigh 116 = .ok (.iand, 1) := by decide +kernel
theorem dX7_findHigh_117 : decode cX7_findHigh 117 = .ok (.iconst 1, 1) := by decide +kernel
theorem dX7_findHigh_118 : decode cX7_findHigh 118 = .ok (.if_icmp .ne 13, 3) := by decide +kernel
theorem dX7_findHigh_121 : decode cX7_findHigh 121 = .ok (.aload_n 0, 1) := by decide +kernel
theorem dX7_findHigh_122 : decode cX7_findHigh 122 = .ok (.getfield 70, 3) := by decide +kernel
theorem dX7_findHigh_125 : decode cX7_findHigh 125 = .ok (.iload 7, 2) := by decide +kernel
theorem dX7_findHigh_127 : decode cX7_findHigh 127 = .ok (.iaload, 1) := by decide +kernel
theorem dX7_findHigh_128 : decode cX7_findHigh 128 = .ok (.goto 4, 3) := by decide +kernel
theorem dX7_findHigh_131 : decode cX7_findHigh 131 = .ok (.iconst 0, 1) := by decide +kernel
theorem dX7_findHigh_132 : decode cX7_findHigh 132 = .ok (.istore 8, 2) := by decide +kernel
theorem dX7_findHigh_134 : decode cX7_findHigh 134 = .ok (.iload 8, 2) := by decide +kernel
theorem dX7_findHigh_136 : decode cX7_findHigh 136 = .ok (.iload 7, 2) := by decide +kernel
theorem dX7_findHigh_138 : decode cX7_findHigh 138 = .ok (.iload 5, 2) := by decide +kernel
theorem dX7_findHigh_140 : decode cX7_findHigh 140 = .ok (.if_icmp .ne 16, 3) := by decide +kernel
theorem dX7_findHigh_143 : decode cX7_findHigh 143 = .ok (.aload_n 0, 1) := by decide +kernel
theorem dX7_findHigh_144 : decode cX7_findHigh 144 = .ok (.iload_n 2, 1) := by decide +kernel
theorem dX7_findHigh_145 : decode cX7_findHigh 145 = .ok (.invokevirtual 98, 3) := by decide +kernel
theorem dX7_findHigh_148 : decode cX7_findHigh 148 = .ok (.iconst 2, 1) := by decide +kernel
theorem dX7_findHigh_149 : decode cX7_findHigh 149 = .ok (.if_icmp .ne 7, 3) := by decide +kernel
theorem dX7_findHigh_152 : decode cX7_findHigh 152 = .ok (.iconst 1, 1) := by decide +kernel
theorem dX7_findHigh_153 : decode cX7_findHigh 153 = .ok (.goto 4, 3) := by decide +kernel
theorem dX7_findHigh_156 : decode cX7_findHigh 156 = .ok (.iconst 0, 1) := by decide +kernel
theorem dX7_findHigh_157 : decode cX7_findHigh 157 = .ok (.iadd, 1) := by decide +kernel
theorem dX7_findHigh_158 : decode cX7_findHigh 158 = .ok (.istore 8, 2) := by decide +kernel
theorem dX7_findHigh_160 : decode cX7_findHigh 160 = .ok (.iload 8, 2) := by decide +kernel
theorem dX7_findHigh_162 : decode cX7_findHigh 162 = .ok (.iload 6, 2) := by decide +kernel
theorem dX7_findHigh_164 : decode cX7_findHigh 164 = .ok (.if_icmp .le 8, 3) := by decide +kernel
theorem dX7_findHigh_167 : decode cX7_findHigh 167 = .ok (.iload 8, 2) := by decide +kernel
theorem dX7_findHigh_169 : decode cX7_findHigh 169 = .ok (.goto 5, 3) := by decide +kernel
theorem dX7_findHigh_172 : decode cX7_findHigh 172 = .ok (.iload 6, 2) := by decide +kernel
theorem dX7_findHigh_174 : decode cX7_findHigh 174 = .ok (.istore 6, 2) := by decide +kernel
theorem dX7_findHigh_176 : decode cX7_findHigh 176 = .ok (.iinc 7 1, 3) := by decide +kernel
theorem dX7_findHigh_179 : decode cX7_findHigh 179 = .ok (.goto (-76), 3) := by decide +kernel
theorem dX7_findHigh_182 : decode cX7_findHigh 182 = .ok (.aload_n 0, 1) := by decide +kernel
theorem dX7_findHigh_183 : decode cX7_findHigh 183 = .ok (.getfield 70, 3) := by decide +kernel
theorem dX7_findHigh_186 : decode cX7_findHigh 186 = .ok (.iload_n 3, 1) := by decide +kernel
theorem dX7_findHigh_187 : decode cX7_findHigh 187 = .ok (.iload 6, 2) := by decide +kernel
theorem dX7_findHigh_189 : decode cX7_findHigh 189 = .ok (.sipush 1000, 3) := by decide +kernel
theorem dX7_findHigh_192 : decode cX7_findHigh 192 = .ok (.if_icmp .ge 8, 3) := by decide +kernel
theorem dX7_findHigh_195 : decode cX7_findHigh 195 = .ok (.iload 6, 2) := by decide +kernel
theorem dX7_findHigh_197 : decode cX7_findHigh 197 = .ok (.goto 6, 3) := by decide +kernel
theorem dX7_findHigh_200 : decode cX7_findHigh 200 = .ok (.sipush 1000, 3) := by decide +kernel
theorem dX7_findHigh_203 : decode cX7_findHigh 203 = .ok (.iastore, 1) := by decide +kernel
theorem dX7_findHigh_204 : decode cX7_findHigh 204 = .ok (.iinc 2 1, 3) := by decide +kernel
theorem dX7_findHigh_207 : decode cX7_findHigh 207 = .ok (.goto (-175), 3) := by decide +kernel
theorem dX7_findHigh_210 : decode cX7_findHigh 210 = .ok (.iinc 1 1, 3) := by decide +kernel
theorem dX7_findHigh_213 : decode cX7_findHigh 213 = .ok (.goto (-190), 3) := by decide +kernel
theorem dX7_findHigh_216 : decode cX7_findHigh 216 = .ok (.return_, 1) := by decide +kernel
theorem dX7_high_0 : decode cX7_high 0 = .ok (.aload_n 0, 1) := by decide +kernel
theorem dX7_high_1 : decode cX7_high 1 = .ok (.iconst (-1), 1) := by decide +kernel
theorem dX7_high_2 : decode cX7_high 2 = .ok (.invokevirtual 158, 3) := by decide +kernel
theorem dX7_high_5 : decode cX7_high 5 = .ok (.aload_n 0, 1) := by decide +kernel
theorem dX7_high_6 : decode cX7_high 6 = .ok (.invokevirtual 184, 3) := by decide +kernel
theorem dX7_high_9 : decode cX7_high 9 = .ok (.iconst 1, 1) := by decide +kernel
theorem dX7_high_10 : decode cX7_high 10 = .ok (.aload_n 0, 1) := by decide +kernel
theorem dX7_high_11 : decode cX7_high 11 = .ok (.getfield 82, 3) := by decide +kernel
theorem dX7_high_14 : decode cX7_high 14 = .ok (.ishl, 1) := by decide +kernel
theorem dX7_high_15 : decode cX7_high 15 = .ok (.istore_n 1, 1) := by decide +kernel
theorem dX7_high_16 : decode cX7_high 16 = .ok (.aload_n 0, 1) := by decide +kernel
theorem dX7_high_17 : decode cX7_high 17 = .ok (.getfield 85, 3) := by decide +kernel
theorem dX7_high_20 : decode cX7_high 20 = .ok (.istore_n 2, 1) := by decide +kernel
theorem dX7_high_21 : decode cX7_high 21 = .ok (.aload_n 0, 1) := by decide +kernel
theorem dX7_high_22 : decode cX7_high 22 = .ok (.getfield 85, 3) := by decide +kernel
theorem dX7_high_25 : decode cX7_high 25 = .ok (.iconst 1, 1) := by decide +kernel
theorem dX7_high_26 : decode cX7_high 26 = .ok (.isub, 1) := by decide +kernel
theorem dX7_high_27 : decode cX7_high 27 = .ok (.istore_n 3, 1) := by decide +kernel
theorem dX7_high_28 : decode cX7_high 28 = .ok (.iload_n 3, 1) := by decide +kernel
theorem dX7_high_29 : decode cX7_high 29 = .ok (.ifCond .lt 93, 3) := by decide +kernel
theorem dX7_high_32 : decode cX7_high 32 = .ok (.iconst 0, 1) := by decide +kernel
theorem dX7_high_33 : decode cX7_high 33 = .ok (.istore 4, 2) := by decide +kernel
theorem dX7_high_35 : decode cX7_high 35 = .ok (.iload 4, 2) := by decide +kernel
theorem dX7_high_37 : decode cX7_high 37 = .ok (.aload_n 0, 1) := by decide +kernel
theorem dX7_high_38 : decode cX7_high 38 = .ok (.getfield 7, 3) := by decide +kernel
theorem dX7_high_41 : decode cX7_high 41 = .ok (.if_icmp .ge 63, 3) := by decide +kernel
theorem dX7_high_44 : decode cX7_high 44 = .ok (.iload_n 1, 1) := by decide +kernel
theorem dX7_high_45 : decode cX7_high 45 = .ok (.iload 4, 2) := by decide +kernel
theorem dX7_high_47 : decode cX7_high 47 = .ok (.ishr, 1) := by decide +kernel
theorem dX7_high_48 : decode cX7_high 48 = .ok (.iconst 1, 1) := by decide +kernel
theorem dX7_high_49 : decode cX7_high 49 = .ok (.iand, 1) := by decide +kernel
theorem dX7_high_50 : decode cX7_high 50 = .ok (.iconst 1, 1) := by decide +kernel
theorem dX7_high_51 : decode cX7_high 51 = .ok (.if_icmp .ne 47, 3) := by decide +kernel
theorem dX7_high_54 : decode cX7_high 54 = .ok (.aload_n 0, 1) := by decide +kernel
theorem dX7_high_55 : decode cX7_high 55 = .ok (.getfield 70, 3) := by decide +kernel
theorem dX7_high_58 : decode cX7_high 58 = .ok (.iconst 5, 1) := by decide +kernel
theorem dX7_high_59 : decode cX7_high 59 = .ok (.iload 4, 2) := by decide +kernel
theorem dX7_high_61 : decode cX7_high 61 = .ok (.imul, 1) := by decide +kernel
theorem dX7_high_62 : decode cX7_high 62 = .ok (.aload_n 0, 1) := by decide +kernel
theorem dX7_high_63 : decode cX7_high 63 = .ok (.getfield 32, 3) := by decide +kernel
theorem dX7_high_66 : decode cX7_high 66 = .ok (.iload_n 3, 1) := by decide +kernel
theorem dX7_high_67 : decode cX7_high 67 = .ok (.iaload, 1) := by decide +kernel
theorem dX7_high_68 : decode cX7_high 68 = .ok (.iadd, 1) := by decide +kernel
theorem dX7_high_69 : decode cX7_high 69 = .ok (.iaload, 1) := by decide +kernel
theorem dX7_high_70 : decode cX7_high 70 = .ok (.istore 5, 2) := by decide +kernel
theorem dX7_high_72 : decode cX7_high 72 = .ok (.iload 5, 2) := by decide +kernel
theorem dX7_high_74 : decode cX7_high 74 = .ok (.bipush 26, 2) := by decide +kernel
theorem dX7_high_76 : decode cX7_high 76 = .ok (.if_icmp .le 5, 3) := by decide +kernel
theorem dX7_high_79 : decode cX7_high 79 = .ok (.iconst (-1), 1) := by decide +kernel
theorem dX7_high_80 : decode cX7_high 80 = .ok (.ireturn, 1) := by decide +kernel
theorem dX7_high_81 : decode cX7_high 81 = .ok (.iload_n 3, 1) := by decide +kernel
theorem dX7_high_82 : decode cX7_high 82 = .ok (.iload 5, 2) := by decide +kernel
theorem dX7_high_84 : decode cX7_high 84 = .ok (.iadd, 1) := by decide +kernel
theorem dX7_high_85 : decode cX7_high 85 = .ok (.iload_n 2, 1) := by decide +kernel
theorem dX7_high_86 : decode cX7_high 86 = .ok (.if_icmp .le 10, 3) := by decide +kernel
theorem dX7_high_89 : decode cX7_high 89 = .ok (.iload_n 3, 1) := by decide +kernel
theorem dX7_high_90 : decode cX7_high 90 = .ok (.iload 5, 2) := by decide +kernel
theorem dX7_high_92 : decode cX7_high 92 = .ok (.iadd, 1) := by decide +kernel
theorem dX7_high_93 : decode cX7_high 93 = .ok (.goto 4, 3) := by decide +kernel
theorem dX7_high_96 : decode cX7_high 96 = .ok (.iload_n 2, 1) := by decide +kernel
theorem dX7_high_97 : decode cX7_high 97 = .ok (.istore_n 2, 1) := by decide +kernel
theorem dX7_high_98 : decode cX7_high 98 = .ok (.iinc 4 1, 3) := by decide +kernel
theorem dX7_high_101 : decode cX7_high 101 = .ok (.goto (-66), 3) := by decide +kernel
theorem dX7_high_104 : decode cX7_high 104 = .ok (.aload_n 0, 1) := by decide +kernel
theorem dX7_high_105 : decode cX7_high 105 = .ok (.iload_n 1, 1) := by decide +kernel
theorem dX7_high_106 : decode cX7_high 106 = .ok (.aload_n 0, 1) := by decide +kernel
theorem dX7_high_107 : decode cX7_high 107 = .ok (.getfield 32, 3) := by decide +kernel
theorem dX7_high_110 : decode cX7_high 110 = .ok (.iload_n 3, 1) := by decide +kernel
theorem dX7_high_111 : decode cX7_high 111 = .ok (.iaload, 1) := by decide +kernel
theorem dX7_high_112 : decode cX7_high 112 = .ok (.invokevirtual 180, 3) := by decide +kernel
theorem dX7_high_115 : decode cX7_high 115 = .ok (.istore_n 1, 1) := by decide +kernel
theorem dX7_high_116 : decode cX7_high 116 = .ok (.iinc 3 (-1), 3) := by decide +kernel
theorem dX7_high_119 : decode cX7_high 119 = .ok (.goto (-91), 3) := by decide +kernel
theorem dX7_high_122 : decode cX7_high 122 = .ok (.iload_n 2, 1) := by decide +kernel
theorem dX7_high_123 : decode cX7_high 123 = .ok (.ireturn, 1) := by decide +kernel
theorem dX7_count_0 : decode cX7_count 0 = .ok (.iload_n 1, 1) := by decide +kernel
theorem dX7_count_1 : decode cX7_count 1 = .ok (.tableswitch 100 0 5 #[39, 44, 49, 54, 59, 64], 39) := by decide +kernel
theorem dX7_count_40 : decode cX7_count 40 = .ok (.aload_n 0, 1) := by decide +kernel
theorem dX7_count_41 : decode cX7_count 41 = .ok (.getfield 7, 3) := by decide +kernel
theorem dX7_count_44 : decode cX7_count 44 = .ok (.ireturn, 1) := by decide +kernel
theorem dX7_count_45 : decode cX7_count 45 = .ok (.aload_n 0, 1) := by decide +kernel
theorem dX7_count_46 : decode cX7_count 46 = .ok (.getfield 13, 3) := by decide +kernel
theorem dX7_count_49 : decode cX7_count 49 = .ok (.ireturn, 1) := by decide +kernel
theorem dX7_count_50 : decode cX7_count 50 = .ok (.aload_n 0, 1) := by decide +kernel
theorem dX7_count_51 : decode cX7_count 51 = .ok (.getfield 79, 3) := by decide +kernel
theorem dX7_count_54 : decode cX7_count 54 = .ok (.ireturn, 1) := by decide +kernel
theorem dX7_count_55 : decode cX7_count 55 = .ok (.aload_n 0, 1) := by decide +kernel
theorem dX7_count_56 : decode cX7_count 56 = .ok (.getfield 88, 3) := by decide +kernel
theorem dX7_count_59 : decode cX7_count 59 = .ok (.ireturn, 1) := by decide +kernel
theorem dX7_count_60 : decode cX7_count 60 = .ok (.aload_n 0, 1) := by decide +kernel
theorem dX7_count_61 : decode cX7_count 61 = .ok (.getfield 85, 3) := by decide +kernel
theorem dX7_count_64 : decode cX7_count 64 = .ok (.ireturn, 1) := by decide +kernel
theorem dX7_count_65 : decode cX7_count 65 = .ok (.iconst 0, 1) := by decide +kernel
theorem dX7_count_66 : decode cX7_count 66 = .ok (.istore_n 2, 1) := by decide +kernel
theorem dX7_count_67 : decode cX7_count 67 = .ok (.iconst 0, 1) := by decide +kernel
theorem dX7_count_68 : decode cX7_count 68 = .ok (.istore_n 3, 1) := by decide +kernel
theorem dX7_count_69 : decode cX7_count 69 = .ok (.iload_n 3, 1) := by decide +kernel
theorem dX7_count_70 : decode cX7_count 70 = .ok (.aload_n 0, 1) := by decide +kernel
theorem dX7_count_71 : decode cX7_count 71 = .ok (.getfield 79, 3) := by decide +kernel
theorem dX7_count_74 : decode cX7_count 74 = .ok (.if_icmp .ge 25, 3) := by decide +kernel
theorem dX7_count_77 : decode cX7_count 77 = .ok (.iload_n 2, 1) := by decide +kernel
theorem dX7_count_78 : decode cX7_count 78 = .ok (.aload_n 0, 1) := by decide +kernel
theorem dX7_count_79 : decode cX7_count 79 = .ok (.iload_n 3, 1) := by decide +kernel
theorem dX7_count_80 : decode cX7_count 80 = .ok (.invokevirtual 102, 3) := by decide +kernel
theorem dX7_count_83 : decode cX7_count 83 = .ok (.ifCond .eq 7, 3) := by decide +kernel
theorem dX7_count_86 : decode cX7_count 86 = .ok (.iconst 1, 1) := by decide +kernel
theorem dX7_count_87 : decode cX7_count 87 = .ok (.goto 4, 3) := by decide +kernel
theorem dX7_count_90 : decode cX7_count 90 = .ok (.iconst 0, 1) := by decide +kernel
theorem dX7_count_91 : decode cX7_count 91 = .ok (.iadd, 1) := by decide +kernel
theorem dX7_count_92 : decode cX7_count 92 = .ok (.istore_n 2, 1) := by decide +kernel
theorem dX7_count_93 : decode cX7_count 93 = .ok (.iinc 3 1, 3) := by decide +kernel
theorem dX7_count_96 : decode cX7_count 96 = .ok (.goto (-27), 3) := by decide +kernel
theorem dX7_count_99 : decode cX7_count 99 = .ok (.iload_n 2, 1) := by decide +kernel
theorem dX7_count_100 : decode cX7_count 100 = .ok (.ireturn, 1) := by decide +kernel
theorem dX7_count_101 : decode cX7_count 101 = .ok (.bipush (-2), 2) := by decide +kernel
theorem dX7_count_103 : decode cX7_count 103 = .ok (.ireturn, 1) := by decide +kernel
