theorem dJ6_compare_7cf53_0 : decode cJ6_compare_7cf53 0 = .ok (.iload_n 0, 1) := by decide +kernel
theorem dJ6_compare_7cf53_1 : decode cJ6_compare_7cf53 1 = .ok (.iload_n 1, 1) := by decide +kernel
theorem dJ6_compare_7cf53_2 : decode cJ6_compare_7cf53 2 = .ok (.if_icmp .ge 7, 3) := by decide +kernel
theorem dJ6_compare_7cf53_5 : decode cJ6_compare_7cf53 5 = .ok (.iconst (-1), 1) := by decide +kernel
theorem dJ6_compare_7cf53_6 : decode cJ6_compare_7cf53 6 = .ok (.goto 13, 3) := by decide +kernel
theorem dJ6_compare_7cf53_9 : decode cJ6_compare_7cf53 9 = .ok (.iload_n 0, 1) := by decide +kernel
theorem dJ6_compare_7cf53_10 : decode cJ6_compare_7cf53 10 = .ok (.iload_n 1, 1) := by decide +kernel
theorem dJ6_compare_7cf53_11 : decode cJ6_compare_7cf53 11 = .ok (.if_icmp .ne 7, 3) := by decide +kernel
theorem dJ6_compare_7cf53_14 : decode cJ6_compare_7cf53 14 = .ok (.iconst 0, 1) := by decide +kernel
theorem dJ6_compare_7cf53_15 : decode cJ6_compare_7cf53 15 = .ok (.goto 4, 3) := by decide +kernel
theorem dJ6_compare_7cf53_18 : decode cJ6_compare_7cf53 18 = .ok (.iconst 1, 1) := by decide +kernel
theorem dJ6_compare_7cf53_19 : decode cJ6_compare_7cf53 19 = .ok (.ireturn, 1) := by decide +kernel
theorem dJ9_abs_0f7a4_0 : decode cJ9_abs_0f7a4 0 = .ok (.iload_n 0, 1) := by decide +kernel
theorem dJ9_abs_0f7a4_1 : decode cJ9_abs_0f7a4 1 = .ok (.ifCond .ge 8, 3) := by decide +kernel
theorem dJ9_abs_0f7a4_4 : decode cJ9_abs_0f7a4 4 = .ok (.iload_n 0, 1) := by decide +kernel
theorem dJ9_abs_0f7a4_5 : decode cJ9_abs_0f7a4 5 = .ok (.ineg, 1) := by decide +kernel
theorem dJ9_abs_0f7a4_6 : decode cJ9_abs_0f7a4 6 = .ok (.goto 4, 3) := by decide +kernel
theorem dJ9_abs_0f7a4_9 : decode cJ9_abs_0f7a4 9 = .ok (.iload_n 0, 1) := by decide +kernel
theorem dJ9_abs_0f7a4_10 : decode cJ9_abs_0f7a4 10 = .ok (.ireturn, 1) := by decide +kernel
theorem dJ9_max_7cf53_0 : decode cJ9_max_7cf53 0 = .ok (.iload_n 0, 1) := by decide +kernel
theorem dJ9_max_7cf53_1 : decode cJ9_max_7cf53 1 = .ok (.iload_n 1, 1) := by decide +kernel
theorem dJ9_max_7cf53_2 : decode cJ9_max_7cf53 2 = .ok (.if_icmp .lt 7, 3) := by decide +kernel
theorem dJ9_max_7cf53_5 : decode cJ9_max_7cf53 5 = .ok (.iload_n 0, 1) := by decide +kernel
theorem dJ9_max_7cf53_6 : decode cJ9_max_7cf53 6 = .ok (.goto 4, 3) := by decide +kernel
theorem dJ9_max_7cf53_9 : decode cJ9_max_7cf53 9 = .ok (.iload_n 1, 1) := by decide +kernel
theorem dJ9_max_7cf53_10 : decode cJ9_max_7cf53 10 = .ok (.ireturn, 1) := by decide +kernel
theorem dJ9_min_7cf53_0 : decode cJ9_min_7cf53 0 = .ok (.iload_n 0, 1) := by decide +kernel
theorem dJ9_min_7cf53_1 : decode cJ9_min_7cf53 1 = .ok (.iload_n 1, 1) := by decide +kernel
theorem dJ9_min_7cf53_2 : decode cJ9_min_7cf53 2 = .ok (.if_icmp .gt 7, 3) := by decide +kernel
theorem dJ9_min_7cf53_5 : decode cJ9_min_7cf53 5 = .ok (.iload_n 0, 1) := by decide +kernel
theorem dJ9_min_7cf53_6 : decode cJ9_min_7cf53 6 = .ok (.goto 4, 3) := by decide +kernel
theorem dJ9_min_7cf53_9 : decode cJ9_min_7cf53 9 = .ok (.iload_n 1, 1) := by decide +kernel
theorem dJ9_min_7cf53_10 : decode cJ9_min_7cf53 10 = .ok (.ireturn, 1) := by decide +kernel
theorem dL_below_0 : decode cL_below 0 = .ok (.iload_n 0, 1) := by decide +kernel
theorem dL_below_1 : decode cL_below 1 = .ok (.ldc 7, 2) := by decide +kernel
theorem dL_below_3 : decode cL_below 3 = .ok (.iand, 1) := by decide +kernel
theorem dL_below_4 : decode cL_below 4 = .ok (.iload_n 1, 1) := by decide +kernel
theorem dL_below_5 : decode cL_below 5 = .ok (.irem, 1) := by decide +kernel
theorem dL_below_6 : decode cL_below 6 = .ok (.ireturn, 1) := by decide +kernel
theorem dL_cell_0 : decode cL_cell 0 = .ok (.iload_n 1, 1) := by decide +kernel
theorem dL_cell_1 : decode cL_cell 1 = .ok (.aload_n 0, 1) := by decide +kernel
theorem dL_cell_2 : decode cL_cell 2 = .ok (.arraylength, 1) := by decide +kernel
theorem dL_cell_3 : decode cL_cell 3 = .ok (.if_icmp .ge 9, 3) := by decide +kernel
theorem dL_cell_6 : decode cL_cell 6 = .ok (.aload_n 0, 1) := by decide +kernel
theorem dL_cell_7 : decode cL_cell 7 = .ok (.iload_n 1, 1) := by decide +kernel
theorem dL_cell_8 : decode cL_cell 8 = .ok (.iaload, 1) := by decide +kernel
theorem dL_cell_9 : decode cL_cell 9 = .ok (.goto 9, 3) := by decide +kernel
theorem dL_cell_12 : decode cL_cell 12 = .ok (.ldc 8, 2) := by decide +kernel
theorem dL_cell_14 : decode cL_cell 14 = .ok (.iload_n 1, 1) := by decide +kernel
theorem dL_cell_15 : decode cL_cell 15 = .ok (.iconst 3, 1) := by decide +kernel
theorem dL_cell_16 : decode cL_cell 16 = .ok (.iadd, 1) := by decide +kernel
theorem dL_cell_17 : decode cL_cell 17 = .ok (.imul, 1) := by decide +kernel
theorem dL_cell_18 : decode cL_cell 18 = .ok (.ireturn, 1) := by decide +kernel
theorem dL_law_0 : decode cL_law 0 = .ok (.new 9, 3) := by decide +kernel
theorem dL_law_3 : decode cL_law 3 = .ok (.dup, 1) := by decide +kernel
theorem dL_law_4 : decode cL_law 4 = .ok (.invokespecial 11, 3) := by decide +kernel
theorem dL_law_7 : decode cL_law 7 = .ok (.astore_n 1, 1) := by decide +kernel
theorem dL_law_8 : decode cL_law 8 = .ok (.aload_n 1, 1) := by decide +kernel
theorem dL_law_9 : decode cL_law 9 = .ok (.iconst 1, 1) := by decide +kernel
theorem dL_law_10 : decode cL_law 10 = .ok (.aload_n 0, 1) := by decide +kernel
theorem dL_law_11 : decode cL_law 11 = .ok (.iconst 1, 1) := by decide +kernel
theorem dL_law_12 : decode cL_law 12 = .ok (.invokestatic 12, 3) := by decide +kernel
theorem dL_law_15 : decode cL_law 15 = .ok (.iconst 4, 1) := by decide +kernel
theorem dL_law_16 : decode cL_law 16 = .ok (.invokestatic 18, 3) := by decide +kernel
theorem dL_law_19 : decode cL_law 19 = .ok (.iadd, 1) := by decide +kernel
theorem dL_law_20 : decode cL_law 20 = .ok (.aload_n 0, 1) := by decide +kernel
theorem dL_law_21 : decode cL_law 21 = .ok (.iconst 2, 1) := by decide +kernel
theorem dL_law_22 : decode cL_law 22 = .ok (.invokestatic 12, 3) := by decide +kernel
theorem dL_law_25 : decode cL_law 25 = .ok (.iconst 3, 1) := by decide +kernel
theorem dL_law_26 : decode cL_law 26 = .ok (.invokestatic 18, 3) := by decide +kernel
theorem dL_law_29 : decode cL_law 29 = .ok (.invokevirtual 22, 3) := by decide +kernel
theorem dL_law_32 : decode cL_law 32 = .ok (.pop, 1) := by decide +kernel
theorem dL_law_33 : decode cL_law 33 = .ok (.iconst 0, 1) := by decide +kernel
theorem dL_law_34 : decode cL_law 34 = .ok (.istore_n 2, 1) := by decide +kernel
theorem dL_law_35 : decode cL_law 35 = .ok (.iload_n 2, 1) := by decide +kernel
theorem dL_law_36 : decode cL_law 36 = .ok (.iconst 3, 1) := by decide +kernel
theorem dL_law_37 : decode cL_law 37 = .ok (.if_icmp .ge 43, 3) := by decide +kernel
theorem dL_law_40 : decode cL_law 40 = .ok (.aload_n 1, 1) := by decide +kernel
theorem dL_law_41 : decode cL_law 41 = .ok (.iload_n 2, 1) := by decide +kernel
theorem dL_law_42 : decode cL_law 42 = .ok (.aload_n 0, 1) := by decide +kernel
theorem dL_law_43 : decode cL_law 43 = .ok (.iload_n 2, 1) := by decide +kernel
theorem dL_law_44 : decode cL_law 44 = .ok (.iconst 3, 1) := by decide +kernel
theorem dL_law_45 : decode cL_law 45 = .ok (.iadd, 1) := by decide +kernel
theorem dL_law_46 : decode cL_law 46 = .ok (.invokestatic 12, 3) := by decide +kernel
theorem dL_law_49 : decode cL_law 49 = .ok (.bipush 6, 2) := by decide +kernel
theorem dL_law_51 : decode cL_law 51 = .ok (.invokestatic 18, 3) := by decide +kernel
theorem dL_law_54 : decode cL_law 54 = .ok (.bipush 6, 2) := by decide +kernel
theorem dL_law_56 : decode cL_law 56 = .ok (.aload_n 0, 1) := by decide +kernel
theorem dL_law_57 : decode cL_law 57 = .ok (.iload_n 2, 1) := by decide +kernel
theorem dL_law_58 : decode cL_law 58 = .ok (.bipush 6, 2) := by decide +kernel
theorem dL_law_60 : decode cL_law 60 = .ok (.iadd, 1) := by decide +kernel
theorem dL_law_61 : decode cL_law 61 = .ok (.invokestatic 12, 3) := by decide +kernel
theorem dL_law_64 : decode cL_law 64 = .ok (.bipush 60, 2) := by decide +kernel
theorem dL_law_66 : decode cL_law 66 = .ok (.invokestatic 18, 3) := by decide +kernel
theorem dL_law_69 : decode cL_law 69 = .ok (.iadd, 1) := by decide +kernel
theorem dL_law_70 : decode cL_law 70 = .ok (.invokevirtual 25, 3) := by decide +kernel
theorem dL_law_73 : decode cL_law 73 = .ok (.pop, 1) := by decide +kernel
theorem dL_law_74 : decode cL_law 74 = .ok (.iinc 2 1, 3) := by decide +kernel
theorem dL_law_77 : decode cL_law 77 = .ok (.goto (-42), 3) := by decide +kernel
theorem dL_law_80 : decode cL_law 80 = .ok (.bipush 6, 2) := by decide +kernel
theorem dL_law_82 : decode cL_law 82 = .ok (.newarray .int, 2) := by decide +kernel
theorem dL_law_84 : decode cL_law 84 = .ok (.astore_n 2, 1) := by decide +kernel
theorem dL_law_85 : decode cL_law 85 = .ok (.iconst 0, 1) := by decide +kernel
theorem dL_law_86 : decode cL_law 86 = .ok (.istore_n 3, 1) := by decide +kernel
theorem dL_law_87 : decode cL_law 87 = .ok (.iload_n 3, 1) := by decide +kernel
theorem dL_law_88 : decode cL_law 88 = .ok (.bipush 6, 2) := by decide +kernel
theorem dL_law_90 : decode cL_law 90 = .ok (.if_icmp .ge 66, 3) := by decide +kernel
theorem dL_law_93 : decode cL_law 93 = .ok (.aload_n 2, 1) := by decide +kernel
theorem dL_law_94 : decode cL_law 94 = .ok (.iload_n 3, 1) := by decide +kernel
theorem dL_law_95 : decode cL_law 95 = .ok (.aload_n 0, 1) := by decide +kernel
theorem dL_law_96 : decode cL_law 96 = .ok (.iload_n 3, 1) := by decide +kernel
theorem dL_law_97 : decode cL_law 97 = .ok (.iconst 2, 1) := by decide +kernel
theorem dL_law_98 : decode cL_law 98 = .ok (.iadd, 1) := by decide +kernel
theorem dL_law_99 : decode cL_law 99 = .ok (.invokestatic 12, 3) := by decide +kernel
theorem dL_law_102 : decode cL_law 102 = .ok (.iconst 5, 1) := by decide +kernel
theorem dL_law_103 : decode cL_law 103 = .ok (.invokestatic 18, 3) := by decide +kernel
theorem dL_law_106 : decode cL_law 106 = .ok (.iastore, 1) := by decide +kernel
theorem dL_law_107 : decode cL_law 107 = .ok (.aload_n 1, 1) := by decide +kernel
theorem dL_law_108 : decode cL_law 108 = .ok (.aload_n 2, 1) := by decide +kernel
theorem dL_law_109 : decode cL_law 109 = .ok (.iload_n 3, 1) := by decide +kernel
theorem dL_law_110 : decode cL_law 110 = .ok (.iaload, 1) := by decide +kernel
theorem dL_law_111 : decode cL_law 111 = .ok (.iconst 1, 1) := by decide +kernel
theorem dL_law_112 : decode cL_law 112 = .ok (.aload_n 0, 1) := by decide +kernel
theorem dL_law_113 : decode cL_law 113 = .ok (.iload_n 3, 1) := by decide +kernel
theorem dL_law_114 : decode cL_law 114 = .ok (.iconst 5, 1) := by decide +kernel
theorem dL_law_115 : decode cL_law 115 = .ok (.iadd, 1) := by decide +kernel
theorem dL_law_116 : decode cL_law 116 = .ok (.invokestatic 12, 3) := by decide +kernel
theorem dL_law_119 : decode cL_law 119 = .ok (.iconst 5, 1) := by decide +kernel
theorem dL_law_120 : decode cL_law 120 = .ok (.invokestatic 18, 3) := by decide +kernel
theorem dL_law_123 : decode cL_law 123 = .ok (.iadd, 1) := by decide +kernel
theorem dL_law_124 : decode cL_law 124 = .ok (.aload_n 0, 1) := by decide +kernel
theorem dL_law_125 : decode cL_law 125 = .ok (.iload_n 3, 1) := by decide +kernel
theorem dL_law_126 : decode cL_law 126 = .ok (.bipush 8, 2) := by decide +kernel
theorem dL_law_128 : decode cL_law 128 = .ok (.iadd, 1) := by decide +kernel
theorem dL_law_129 : decode cL_law 129 = .ok (.invokestatic 12, 3) := by decide +kernel
theorem dL_law_132 : decode cL_law 132 = .ok (.bipush 6, 2) := by decide +kernel
theorem dL_law_134 : decode cL_law 134 = .ok (.invokestatic 18, 3) := by decide +kernel
theorem dL_law_137 : decode cL_law 137 = .ok (.aload_n 0, 1) := by decide +kernel
theorem dL_law_138 : decode cL_law 138 = .ok (.iload_n 3, 1) := by decide +kernel
theorem dL_law_139 : decode cL_law 139 = .ok (.invokestatic 12, 3) := by decide +kernel
theorem dL_law_142 : decode cL_law 142 = .ok (.iconst 3, 1) := by decide +kernel
theorem dL_law_143 : decode cL_law 143 = .ok (.invokestatic 18, 3) := by decide +kernel
theorem dL_law_146 : decode cL_law 146 = .ok (.invokevirtual 29, 3) := by decide +kernel
theorem dL_law_149 : decode cL_law 149 = .ok (.pop, 1) := by decide +kernel
theorem dL_law_150 : decode cL_law 150 = .ok (.iinc 3 1, 3) := by decide +kernel
theorem dL_law_153 : decode cL_law 153 = .ok (.goto (-66), 3) := by decide +kernel
theorem dL_law_156 : decode cL_law 156 = .ok (.iconst 0, 1) := by decide +kernel
theorem dL_law_157 : decode cL_law 157 = .ok (.istore_n 3, 1) := by decide +kernel
theorem dL_law_158 : decode cL_law 158 = .ok (.iload_n 3, 1) := by decide +kernel
theorem dL_law_159 : decode cL_law 159 = .ok (.bipush 60, 2) := by decide +kernel
theorem dL_law_161 : decode cL_law 161 = .ok (.if_icmp .ge 57, 3) := by decide +kernel
theorem dL_law_164 : decode cL_law 164 = .ok (.aload_n 0, 1) := by decide +kernel
theorem dL_law_165 : decode cL_law 165 = .ok (.iload_n 3, 1) := by decide +kernel
theorem dL_law_166 : decode cL_law 166 = .ok (.bipush 16, 2) := by decide +kernel
theorem dL_law_168 : decode cL_law 168 = .ok (.irem, 1) := by decide +kernel
theorem dL_law_169 : decode cL_law 169 = .ok (.invokestatic 12, 3) := by decide +kernel
theorem dL_law_172 : decode cL_law 172 = .ok (.bipush 37, 2) := by decide +kernel
theorem dL_law_174 : decode cL_law 174 = .ok (.iload_n 3, 1) := by decide +kernel
theorem dL_law_175 : decode cL_law 175 = .ok (.imul, 1) := by decide +kernel
theorem dL_law_176 : decode cL_law 176 = .ok (.iadd, 1) := by decide +kernel
theorem dL_law_177 : decode cL_law 177 = .ok (.istore 4, 2) := by decide +kernel
theorem dL_law_179 : decode cL_law 179 = .ok (.aload_n 1, 1) := by decide +kernel
theorem dL_law_180 : decode cL_law 180 = .ok (.iload 4, 2) := by decide +kernel
theorem dL_law_182 : decode cL_law 182 = .ok (.iconst 2, 1) := by decide +kernel
theorem dL_law_183 : decode cL_law 183 = .ok (.ishr, 1) := by decide +kernel
theorem dL_law_184 : decode cL_law 184 = .ok (.iload 4, 2) := by decide +kernel
theorem dL_law_186 : decode cL_law 186 = .ok (.bipush 16, 2) := by decide +kernel
theorem dL_law_188 : decode cL_law 188 = .ok (.invokestatic 18, 3) := by decide +kernel
theorem dL_law_191 : decode cL_law 191 = .ok (.invokestatic 33, 3) := by decide +kernel
theorem dL_law_194 : decode cL_law 194 = .ok (.iload_n 3, 1) := by decide +kernel
theorem dL_law_195 : decode cL_law 195 = .ok (.bipush 6, 2) := by decide +kernel
theorem dL_law_197 : decode cL_law 197 = .ok (.irem, 1) := by decide +kernel
theorem dL_law_198 : decode cL_law 198 = .ok (.iconst 5, 1) := by decide +kernel
theorem dL_law_199 : decode cL_law 199 = .ok (.if_icmp .ne 13, 3) := by decide +kernel
theorem dL_law_202 : decode cL_law 202 = .ok (.aload_n 1, 1) := by decide +kernel
theorem dL_law_203 : decode cL_law 203 = .ok (.aload_n 2, 1) := by decide +kernel
theorem dL_law_204 : decode cL_law 204 = .ok (.invokestatic 37, 3) := by decide +kernel
theorem dL_law_207 : decode cL_law 207 = .ok (.ifCond .ne 5, 3) := by decide +kernel
theorem dL_law_210 : decode cL_law 210 = .ok (.iconst 0, 1) := by decide +kernel
theorem dL_law_211 : decode cL_law 211 = .ok (.ireturn, 1) := by decide +kernel
theorem dL_law_212 : decode cL_law 212 = .ok (.iinc 3 1, 3) := by decide +kernel
theorem dL_law_215 : decode cL_law 215 = .ok (.goto (-57), 3) := by decide +kernel
theorem dL_law_218 : decode cL_law 218 = .ok (.aload_n 1, 1) := by decide +kernel
theorem dL_law_219 : decode cL_law 219 = .ok (.invokevirtual 41, 3) := by decide +kernel
theorem dL_law_222 : decode cL_law 222 = .ok (.ireturn, 1) := by decide +kernel
theorem dL_act_0 : decode cL_act 0 = .ok (.aload_n 0, 1) := by decide +kernel
theorem dL_act_1 : decode cL_act 1 = .ok (.iconst 0, 1) := by decide +kernel
theorem dL_act_2 : decode cL_act 2 = .ok (.invokevirtual 45, 3) := by decide +kernel
theorem dL_act_5 : decode cL_act 5 = .ok (.istore_n 3, 1) := by decide +kernel
theorem dL_act_6 : decode cL_act 6 = .ok (.iload_n 2, 1) := by decide +kernel
theorem dL_act_7 : decode cL_act 7 = .ok (.tableswitch 293 0 12 #[65, 65, 79, 79, 79, 103, 117, 130, 158, 181, 195, 217, 248], 65) := by decide +kernel
theorem dL_act_72 : decode cL_act 72 = .ok (.aload_n 0, 1) := by decide +kernel
theorem dL_act_73 : decode cL_act 73 = .ok (.iload_n 1, 1) := by decide +kernel
theorem dL_act_74 : decode cL_act 74 = .ok (.bipush 64, 2) := by decide +kernel
theorem dL_act_76 : decode cL_act 76 = .ok (.invokestatic 18, 3) := by decide +kernel
theorem dL_act_79 : decode cL_act 79 = .ok (.invokevirtual 49, 3) := by decide +kernel
theorem dL_act_82 : decode cL_act 82 = .ok (.pop, 1) := by decide +kernel
theorem dL_act_83 : decode cL_act 83 = .ok (.goto 232, 3) := by decide +kernel
theorem dL_act_86 : decode cL_act 86 = .ok (.aload_n 0, 1) := by decide +kernel
theorem dL_act_87 : decode cL_act 87 = .ok (.iload_n 1, 1) := by decide +kernel
theorem dL_act_88 : decode cL_act 88 = .ok (.bipush 6, 2) := by decide +kernel
theorem dL_act_90 : decode cL_act 90 = .ok (.invokestatic 18, 3) := by decide +kernel
theorem dL_act_93 : decode cL_act 93 = .ok (.iload_n 3, 1) := by decide +kernel
theorem dL_act_94 : decode cL_act 94 = .ok (.iload_n 1, 1) := by decide +kernel
theorem dL_act_95 : decode cL_act 95 = .ok (.iconst 3, 1) := by decide +kernel
theorem dL_act_96 : decode cL_act 96 = .ok (.ishr, 1) := by decide +kernel
theorem dL_act_97 : decode cL_act 97 = .ok (.bipush 30, 2) := by decide +kernel
theorem dL_act_99 : decode cL_act 99 = .ok (.invokestatic 18, 3) := by decide +kernel
theorem dL_act_102 : decode cL_act 102 = .ok (.iadd, 1) := by decide +kernel
theorem dL_act_103 : decode cL_act 103 = .ok (.invokevirtual 52, 3) := by decide +kernel
theorem dL_act_106 : decode cL_act 106 = .ok (.pop, 1) := by decide +kernel
theorem dL_act_107 : decode cL_act 107 = .ok (.goto 208, 3) := by decide +kernel
theorem dL_act_110 : decode cL_act 110 = .ok (.aload_n 0, 1) := by decide +kernel
theorem dL_act_111 : decode cL_act 111 = .ok (.iload_n 1, 1) := by decide +kernel
theorem dL_act_112 : decode cL_act 112 = .ok (.bipush 6, 2) := by decide +kernel
theorem dL_act_114 : decode cL_act 114 = .ok (.invokestatic 18, 3) := by decide +kernel
theorem dL_act_117 : decode cL_act 117 = .ok (.invokevirtual 55, 3) := by decide +kernel
theorem dL_act_120 : decode cL_act 120 = .ok (.pop, 1) := by decide +kernel
theorem dL_act_121 : decode cL_act 121 = .ok (.goto 194, 3) := by decide +kernel
theorem dL_act_124 : decode cL_act 124 = .ok (.aload_n 0, 1) := by decide +kernel
theorem dL_act_125 : decode cL_act 125 = .ok (.iload_n 1, 1) := by decide +kernel
theorem dL_act_126 : decode cL_act 126 = .ok (.iconst 4, 1) := by decide +kernel
theorem dL_act_127 : decode cL_act 127 = .ok (.invokestatic 18, 3) := by decide +kernel
theorem dL_act_130 : decode cL_act 130 = .ok (.invokevirtual 58, 3) := by decide +kernel
theorem dL_act_133 : decode cL_act 133 = .ok (.pop, 1) := by decide +kernel
theorem dL_act_134 : decode cL_act 134 = .ok (.goto 181, 3) := by decide +kernel
theorem dL_act_137 : decode cL_act 137 = .ok (.aload_n 0, 1) := by decide +kernel
theorem dL_act_138 : decode cL_act 138 = .ok (.iload_n 1, 1) := by decide +kernel
theorem dL_act_139 : decode cL_act 139 = .ok (.iconst 4, 1) := by decide +kernel
theorem dL_act_140 : decode cL_act 140 = .ok (.invokestatic 18, 3) := by decide +kernel
theorem dL_act_143 : decode cL_act 143 = .ok (.iload_n 1, 1) := by decide +kernel
theorem dL_act_144 : decode cL_act 144 = .ok (.iconst 2, 1) := by decide +kernel
theorem dL_act_145 : decode cL_act 145 = .ok (.ishr, 1) := by decide +kernel
theorem dL_act_146 : decode cL_act 146 = .ok (.bipush 6, 2) := by decide +kernel
theorem dL_act_148 : decode cL_act 148 = .ok (.invokestatic 18, 3) := by decide +kernel
theorem dL_act_151 : decode cL_act 151 = .ok (.iload_n 1, 1) := by decide +kernel
theorem dL_act_152 : decode cL_act 152 = .ok (.iconst 5, 1) := by decide +kernel
theorem dL_act_153 : decode cL_act 153 = .ok (.ishr, 1) := by decide +kernel
theorem dL_act_154 : decode cL_act 154 = .ok (.iconst 3, 1) := by decide +kernel
theorem dL_act_155 : decode cL_act 155 = .ok (.invokestatic 18, 3) := by decide +kernel
theorem dL_act_158 : decode cL_act 158 = .ok (.invokevirtual 61, 3) := by decide +kernel
theorem dL_act_161 : decode cL_act 161 = .ok (.pop, 1) := by decide +kernel
theorem dL_act_162 : decode cL_act 162 = .ok (.goto 153, 3) := by decide +kernel
theorem dL_act_165 : decode cL_act 165 = .ok (.aload_n 0, 1) := by decide +kernel
theorem dL_act_166 : decode cL_act 166 = .ok (.iload_n 1, 1) := by decide +kernel
theorem dL_act_167 : decode cL_act 167 = .ok (.iconst 3, 1) := by decide +kernel
theorem dL_act_168 : decode cL_act 168 = .ok (.invokestatic 18, 3) := by decide +kernel
theorem dL_act_171 : decode cL_act 171 = .ok (.iload_n 3, 1) := by decide +kernel
theorem dL_act_172 : decode cL_act 172 = .ok (.iload_n 1, 1) := by decide +kernel
theorem dL_act_173 : decode cL_act 173 = .ok (.iconst 3, 1) := by decide +kernel
theorem dL_act_174 : decode cL_act 174 = .ok (.ishr, 1) := by decide +kernel
theorem dL_act_175 : decode cL_act 175 = .ok (.bipush 20, 2) := by decide +kernel
theorem dL_act_177 : decode cL_act 177 = .ok (.invokestatic 18, 3) := by decide +kernel
theorem dL_act_180 : decode cL_act 180 = .ok (.iadd, 1) := by decide +kernel
theorem dL_act_181 : decode cL_act 181 = .ok (.invokevirtual 64, 3) := by decide +kernel
theorem dL_act_184 : decode cL_act 184 = .ok (.pop, 1) := by decide +kernel
theorem dL_act_185 : decode cL_act 185 = .ok (.goto 130, 3) := by decide +kernel
theorem dL_act_188 : decode cL_act 188 = .ok (.aload_n 0, 1) := by decide +kernel
theorem dL_act_189 : decode cL_act 189 = .ok (.iload_n 1, 1) := by decide +kernel
theorem dL_act_190 : decode cL_act 190 = .ok (.bipush 8, 2) := by decide +kernel
theorem dL_act_192 : decode cL_act 192 = .ok (.invokestatic 18, 3) := by decide +kernel
theorem dL_act_195 : decode cL_act 195 = .ok (.invokevirtual 67, 3) := by decide +kernel
theorem dL_act_198 : decode cL_act 198 = .ok (.pop, 1) := by decide +kernel
theorem dL_act_199 : decode cL_act 199 = .ok (.goto 116, 3) := by decide +kernel
theorem dL_act_202 : decode cL_act 202 = .ok (.aload_n 0, 1) := by decide +kernel
theorem dL_act_203 : decode cL_act 203 = .ok (.iload_n 1, 1) := by decide +kernel
theorem dL_act_204 : decode cL_act 204 = .ok (.bipush 6, 2) := by decide +kernel
theorem dL_act_206 : decode cL_act 206 = .ok (.invokestatic 18, 3) := by decide +kernel
theorem dL_act_209 : decode cL_act 209 = .ok (.iload_n 1, 1) := by decide +kernel
theorem dL_act_210 : decode cL_act 210 = .ok (.iconst 3, 1) := by decide +kernel
theorem dL_act_211 : decode cL_act 211 = .ok (.ishr, 1) := by decide +kernel
theorem dL_act_212 : decode cL_act 212 = .ok (.bipush 20, 2) := by decide +kernel
theorem dL_act_214 : decode cL_act 214 = .ok (.invokestatic 18, 3) := by decide +kernel
theorem dL_act_217 : decode cL_act 217 = .ok (.invokevirtual 71, 3) := by decide +kernel
theorem dL_act_220 : decode cL_act 220 = .ok (.pop, 1) := by decide +kernel
theorem dL_act_221 : decode cL_act 221 = .ok (.goto 94, 3) := by decide +kernel
theorem dL_act_224 : decode cL_act 224 = .ok (.aload_n 0, 1) := by decide +kernel
theorem dL_act_225 : decode cL_act 225 = .ok (.iload_n 1, 1) := by decide +kernel
theorem dL_act_226 : decode cL_act 226 = .ok (.iconst 1, 1) := by decide +kernel
theorem dL_act_227 : decode cL_act 227 = .ok (.aload_n 0, 1) := by decide +kernel
theorem dL_act_228 : decode cL_act 228 = .ok (.iconst 5, 1) := by decide +kernel
theorem dL_act_229 : decode cL_act 229 = .ok (.invokevirtual 45, 3) := by decide +kernel
theorem dL_act_232 : decode cL_act 232 = .ok (.invokestatic 74, 3) := by decide +kernel
theorem dL_act_235 : decode cL_act 235 = .ok (.invokestatic 18, 3) := by decide +kernel
theorem dL_act_238 : decode cL_act 238 = .ok (.iconst 1, 1) := by decide +kernel
theorem dL_act_239 : decode cL_act 239 = .ok (.iload_n 1, 1) := by decide +kernel
theorem dL_act_240 : decode cL_act 240 = .ok (.iconst 4, 1) := by decide +kernel
theorem dL_act_241 : decode cL_act 241 = .ok (.ishr, 1) := by decide +kernel
theorem dL_act_242 : decode cL_act 242 = .ok (.bipush 20, 2) := by decide +kernel
theorem dL_act_244 : decode cL_act 244 = .ok (.invokestatic 18, 3) := by decide +kernel
theorem dL_act_247 : decode cL_act 247 = .ok (.iadd, 1) := by decide +kernel
theorem dL_act_248 : decode cL_act 248 = .ok (.invokevirtual 79, 3) := by decide +kernel
theorem dL_act_251 : decode cL_act 251 = .ok (.pop, 1) := by decide +kernel
theorem dL_act_252 : decode cL_act 252 = .ok (.goto 63, 3) := by decide +kernel
theorem dL_act_255 : decode cL_act 255 = .ok (.aload_n 0, 1) := by decide +kernel
theorem dL_act_256 : decode cL_act 256 = .ok (.iload_n 1, 1) := by decide +kernel
theorem dL_act_257 : decode cL_act 257 = .ok (.iconst 3, 1) := by decide +kernel
theorem dL_act_258 : decode cL_act 258 = .ok (.invokestatic 18, 3) := by decide +kernel
theorem dL_act_261 : decode cL_act 261 = .ok (.iload_n 1, 1) := by decide +kernel
theorem dL_act_262 : decode cL_act 262 = .ok (.iconst 2, 1) := by decide +kernel
theorem dL_act_263 : decode cL_act 263 = .ok (.ishr, 1) := by decide +kernel
theorem dL_act_264 : decode cL_act 264 = .ok (.iconst 3, 1) := by decide +kernel
theorem dL_act_265 : decode cL_act 265 = .ok (.invokestatic 18, 3) := by decide +kernel
theorem dL_act_268 : decode cL_act 268 = .ok (.iload_n 3, 1) := by decide +kernel
theorem dL_act_269 : decode cL_act 269 = .ok (.sipush 144, 3) := by decide +kernel
theorem dL_act_272 : decode cL_act 272 = .ok (.idiv, 1) := by decide +kernel
theorem dL_act_273 : decode cL_act 273 = .ok (.iconst 1, 1) := by decide +kernel
theorem dL_act_274 : decode cL_act 274 = .ok (.iadd, 1) := by decide +kernel
theorem dL_act_275 : decode cL_act 275 = .ok (.iload_n 1, 1) := by decide +kernel
theorem dL_act_276 : decode cL_act 276 = .ok (.iconst 4, 1) := by decide +kernel
theorem dL_act_277 : decode cL_act 277 = .ok (.ishr, 1) := by decide +kernel
theorem dL_act_278 : decode cL_act 278 = .ok (.iconst 2, 1) := by decide +kernel
theorem dL_act_279 : decode cL_act 279 = .ok (.invokestatic 18, 3) := by decide +kernel
theorem dL_act_282 : decode cL_act 282 = .ok (.iadd, 1) := by decide +kernel
theorem dL_act_283 : decode cL_act 283 = .ok (.iconst 1, 1) := by decide +kernel
theorem dL_act_284 : decode cL_act 284 = .ok (.iload_n 1, 1) := by decide +kernel
theorem dL_act_285 : decode cL_act 285 = .ok (.iconst 5, 1) := by decide +kernel
theorem dL_act_286 : decode cL_act 286 = .ok (.ishr, 1) := by decide +kernel
theorem dL_act_287 : decode cL_act 287 = .ok (.bipush 30, 2) := by decide +kernel
theorem dL_act_289 : decode cL_act 289 = .ok (.invokestatic 18, 3) := by decide +kernel
theorem dL_act_292 : decode cL_act 292 = .ok (.iadd, 1) := by decide +kernel
theorem dL_act_293 : decode cL_act 293 = .ok (.invokevirtual 82, 3) := by decide +kernel
theorem dL_act_296 : decode cL_act 296 = .ok (.pop, 1) := by decide +kernel
theorem dL_act_297 : decode cL_act 297 = .ok (.goto 18, 3) := by decide +kernel
theorem dL_act_300 : decode cL_act 300 = .ok (.aload_n 0, 1) := by decide +kernel
theorem dL_act_301 : decode cL_act 301 = .ok (.iconst 1, 1) := by decide +kernel
theorem dL_act_302 : decode cL_act 302 = .ok (.iload_n 1, 1) := by decide +kernel
theorem dL_act_303 : decode cL_act 303 = .ok (.iconst 2, 1) := by decide +kernel
theorem dL_act_304 : decode cL_act 304 = .ok (.ishr, 1) := by decide +kernel
theorem dL_act_305 : decode cL_act 305 = .ok (.bipush 60, 2) := by decide +kernel
theorem dL_act_307 : decode cL_act 307 = .ok (.invokestatic 18, 3) := by decide +kernel
theorem dL_act_310 : decode cL_act 310 = .ok (.iadd, 1) := by decide +kernel
theorem dL_act_311 : decode cL_act 311 = .ok (.invokevirtual 85, 3) := by decide +kernel
theorem dL_act_314 : decode cL_act 314 = .ok (.pop, 1) := by decide +kernel
theorem dL_act_315 : decode cL_act 315 = .ok (.goto 12, 3) := by decide +kernel
theorem dL_act_318 : decode cL_act 318 = .ok (.astore 4, 2) := by decide +kernel
theorem dL_act_320 : decode cL_act 320 = .ok (.return_, 1) := by decide +kernel
theorem dL_act_321 : decode cL_act 321 = .ok (.astore 4, 2) := by decide +kernel
theorem dL_act_323 : decode cL_act 323 = .ok (.return_, 1) := by decide +kernel
theorem dL_act_324 : decode cL_act 324 = .ok (.astore 4, 2) := by decide +kernel
theorem dL_act_326 : decode cL_act 326 = .ok (.return_, 1) := by decide +kernel
theorem dL_act_327 : decode cL_act 327 = .ok (.return_, 1) := by decide +kernel
theorem dL_isAsked_0 : decode cL_isAsked 0 = .ok (.aload_n 0, 1) := by decide +kernel
theorem dL_isAsked_1 : decode cL_isAsked 1 = .ok (.invokevirtual 94, 3) := by decide +kernel
theorem dL_isAsked_4 : decode cL_isAsked 4 = .ok (.lstore_n 2, 1) := by decide +kernel
theorem dL_isAsked_5 : decode cL_isAsked 5 = .ok (.aload_n 0, 1) := by decide +kernel
theorem dL_isAsked_6 : decode cL_isAsked 6 = .ok (.invokevirtual 41, 3) := by decide +kernel
theorem dL_isAsked_9 : decode cL_isAsked 9 = .ok (.ifCond .ne 5, 3) := by decide +kernel
theorem dL_isAsked_12 : decode cL_isAsked 12 = .ok (.iconst 0, 1) := by decide +kernel
theorem dL_isAsked_13 : decode cL_isAsked 13 = .ok (.ireturn, 1) := by decide +kernel
theorem dL_isAsked_14 : decode cL_isAsked 14 = .ok (.iconst 4, 1) := by decide +kernel
theorem dL_isAsked_15 : decode cL_isAsked 15 = .ok (.newarray .int, 2) := by decide +kernel
theorem dL_isAsked_17 : decode cL_isAsked 17 = .ok (.astore 4, 2) := by decide +kernel
theorem dL_isAsked_19 : decode cL_isAsked 19 = .ok (.iconst 0, 1) := by decide +kernel
theorem dL_isAsked_20 : decode cL_isAsked 20 = .ok (.istore 5, 2) := by decide +kernel
theorem dL_isAsked_22 : decode cL_isAsked 22 = .ok (.iconst 0, 1) := by decide +kernel
theorem dL_isAsked_23 : decode cL_isAsked 23 = .ok (.istore 6, 2) := by decide +kernel
theorem dL_isAsked_25 : decode cL_isAsked 25 = .ok (.iconst 0, 1) := by decide +kernel
theorem dL_isAsked_26 : decode cL_isAsked 26 = .ok (.istore 7, 2) := by decide +kernel
theorem dL_isAsked_28 : decode cL_isAsked 28 = .ok (.iconst 0, 1) := by decide +kernel
theorem dL_isAsked_29 : decode cL_isAsked 29 = .ok (.istore 8, 2) := by decide +kernel
theorem dL_isAsked_31 : decode cL_isAsked 31 = .ok (.iconst 0, 1) := by decide +kernel
theorem dL_isAsked_32 : decode cL_isAsked 32 = .ok (.istore 9, 2) := by decide +kernel
theorem dL_isAsked_34 : decode cL_isAsked 34 = .ok (.iload 9, 2) := by decide +kernel
theorem dL_isAsked_36 : decode cL_isAsked 36 = .ok (.aload_n 0, 1) := by decide +kernel
theorem dL_isAsked_37 : decode cL_isAsked 37 = .ok (.iconst 5, 1) := by decide +kernel
theorem dL_isAsked_38 : decode cL_isAsked 38 = .ok (.invokevirtual 45, 3) := by decide +kernel
theorem dL_isAsked_41 : decode cL_isAsked 41 = .ok (.if_icmp .ge 76, 3) := by decide +kernel
theorem dL_isAsked_44 : decode cL_isAsked 44 = .ok (.aload 4, 2) := by decide +kernel
theorem dL_isAsked_46 : decode cL_isAsked 46 = .ok (.aload_n 0, 1) := by decide +kernel
theorem dL_isAsked_47 : decode cL_isAsked 47 = .ok (.iload 9, 2) := by decide +kernel
theorem dL_isAsked_49 : decode cL_isAsked 49 = .ok (.iconst 2, 1) := by decide +kernel
theorem dL_isAsked_50 : decode cL_isAsked 50 = .ok (.invokevirtual 98, 3) := by decide +kernel
theorem dL_isAsked_53 : decode cL_isAsked 53 = .ok (.dup2, 1) := by decide +kernel
theorem dL_isAsked_54 : decode cL_isAsked 54 = .ok (.iaload, 1) := by decide +kernel
theorem dL_isAsked_55 : decode cL_isAsked 55 = .ok (.iconst 1, 1) := by decide +kernel
theorem dL_isAsked_56 : decode cL_isAsked 56 = .ok (.iadd, 1) := by decide +kernel
theorem dL_isAsked_57 : decode cL_isAsked 57 = .ok (.iastore, 1) := by decide +kernel
theorem dL_isAsked_58 : decode cL_isAsked 58 = .ok (.aload_n 0, 1) := by decide +kernel
theorem dL_isAsked_59 : decode cL_isAsked 59 = .ok (.iload 9, 2) := by decide +kernel
theorem dL_isAsked_61 : decode cL_isAsked 61 = .ok (.bipush 7, 2) := by decide +kernel
theorem dL_isAsked_63 : decode cL_isAsked 63 = .ok (.invokevirtual 98, 3) := by decide +kernel
theorem dL_isAsked_66 : decode cL_isAsked 66 = .ok (.aload_n 0, 1) := by decide +kernel
theorem dL_isAsked_67 : decode cL_isAsked 67 = .ok (.bipush 10, 2) := by decide +kernel
theorem dL_isAsked_69 : decode cL_isAsked 69 = .ok (.invokevirtual 45, 3) := by decide +kernel
theorem dL_isAsked_72 : decode cL_isAsked 72 = .ok (.if_icmp .gt 37, 3) := by decide +kernel
theorem dL_isAsked_75 : decode cL_isAsked 75 = .ok (.aload_n 0, 1) := by decide +kernel
theorem dL_isAsked_76 : decode cL_isAsked 76 = .ok (.iload 9, 2) := by decide +kernel
theorem dL_isAsked_78 : decode cL_isAsked 78 = .ok (.iconst 2, 1) := by decide +kernel
theorem dL_isAsked_79 : decode cL_isAsked 79 = .ok (.invokevirtual 98, 3) := by decide +kernel
theorem dL_isAsked_82 : decode cL_isAsked 82 = .ok (.iconst 1, 1) := by decide +kernel
theorem dL_isAsked_83 : decode cL_isAsked 83 = .ok (.if_icmp .ne 7, 3) := by decide +kernel
theorem dL_isAsked_86 : decode cL_isAsked 86 = .ok (.iconst 1, 1) := by decide +kernel
theorem dL_isAsked_87 : decode cL_isAsked 87 = .ok (.goto 4, 3) := by decide +kernel
theorem dL_isAsked_90 : decode cL_isAsked 90 = .ok (.iconst 0, 1) := by decide +kernel
theorem dL_isAsked_91 : decode cL_isAsked 91 = .ok (.aload_n 0, 1) := by decide +kernel
theorem dL_isAsked_92 : decode cL_isAsked 92 = .ok (.iload 9, 2) := by decide +kernel
theorem dL_isAsked_94 : decode cL_isAsked 94 = .ok (.iconst 4, 1) := by decide +kernel
theorem dL_isAsked_95 : decode cL_isAsked 95 = .ok (.invokevirtual 98, 3) := by decide +kernel
theorem dL_isAsked_98 : decode cL_isAsked 98 = .ok (.ifCond .lt 7, 3) := by decide +kernel
theorem dL_isAsked_101 : decode cL_isAsked 101 = .ok (.iconst 1, 1) := by decide +kernel
theorem dL_isAsked_102 : decode cL_isAsked 102 = .ok (.goto 4, 3) := by decide +kernel
theorem dL_isAsked_105 : decode cL_isAsked 105 = .ok (.iconst 0, 1) := by decide +kernel
theorem dL_isAsked_106 : decode cL_isAsked 106 = .ok (.if_icmp .eq 5, 3) := by decide +kernel
theorem dL_isAsked_109 : decode cL_isAsked 109 = .ok (.iconst 0, 1) := by decide +kernel
theorem dL_isAsked_110 : decode cL_isAsked 110 = .ok (.ireturn, 1) := by decide +kernel
theorem dL_isAsked_111 : decode cL_isAsked 111 = .ok (.iinc 9 1, 3) := by decide +kernel
theorem dL_isAsked_114 : decode cL_isAsked 114 = .ok (.goto (-80), 3) := by decide +kernel
theorem dL_isAsked_117 : decode cL_isAsked 117 = .ok (.iconst 0, 1) := by decide +kernel
theorem dL_isAsked_118 : decode cL_isAsked 118 = .ok (.istore 9, 2) := by decide +kernel
theorem dL_isAsked_120 : decode cL_isAsked 120 = .ok (.iload 9, 2) := by decide +kernel
theorem dL_isAsked_122 : decode cL_isAsked 122 = .ok (.bipush 6, 2) := by decide +kernel
theorem dL_isAsked_124 : decode cL_isAsked 124 = .ok (.if_icmp .ge 45, 3) := by decide +kernel
theorem dL_isAsked_127 : decode cL_isAsked 127 = .ok (.iload 5, 2) := by decide +kernel
theorem dL_isAsked_129 : decode cL_isAsked 129 = .ok (.aload_n 0, 1) := by decide +kernel
theorem dL_isAsked_130 : decode cL_isAsked 130 = .ok (.iload 9, 2) := by decide +kernel
theorem dL_isAsked_132 : decode cL_isAsked 132 = .ok (.iconst 4, 1) := by decide +kernel
theorem dL_isAsked_133 : decode cL_isAsked 133 = .ok (.invokevirtual 101, 3) := by decide +kernel
theorem dL_isAsked_136 : decode cL_isAsked 136 = .ok (.iadd, 1) := by decide +kernel
theorem dL_isAsked_137 : decode cL_isAsked 137 = .ok (.istore 5, 2) := by decide +kernel
theorem dL_isAsked_139 : decode cL_isAsked 139 = .ok (.iload 8, 2) := by decide +kernel
theorem dL_isAsked_141 : decode cL_isAsked 141 = .ok (.aload_n 0, 1) := by decide +kernel
theorem dL_isAsked_142 : decode cL_isAsked 142 = .ok (.iload 9, 2) := by decide +kernel
theorem dL_isAsked_144 : decode cL_isAsked 144 = .ok (.iconst 5, 1) := by decide +kernel
theorem dL_isAsked_145 : decode cL_isAsked 145 = .ok (.invokevirtual 101, 3) := by decide +kernel
theorem dL_isAsked_148 : decode cL_isAsked 148 = .ok (.iadd, 1) := by decide +kernel
theorem dL_isAsked_149 : decode cL_isAsked 149 = .ok (.istore 8, 2) := by decide +kernel
theorem dL_isAsked_151 : decode cL_isAsked 151 = .ok (.iload 7, 2) := by decide +kernel
theorem dL_isAsked_153 : decode cL_isAsked 153 = .ok (.aload_n 0, 1) := by decide +kernel
theorem dL_isAsked_154 : decode cL_isAsked 154 = .ok (.iload 9, 2) := by decide +kernel
theorem dL_isAsked_156 : decode cL_isAsked 156 = .ok (.iconst 2, 1) := by decide +kernel
theorem dL_isAsked_157 : decode cL_isAsked 157 = .ok (.invokevirtual 101, 3) := by decide +kernel
theorem dL_isAsked_160 : decode cL_isAsked 160 = .ok (.iadd, 1) := by decide +kernel
theorem dL_isAsked_161 : decode cL_isAsked 161 = .ok (.istore 7, 2) := by decide +kernel
theorem dL_isAsked_163 : decode cL_isAsked 163 = .ok (.iinc 9 1, 3) := by decide +kernel
theorem dL_isAsked_166 : decode cL_isAsked 166 = .ok (.goto (-46), 3) := by decide +kernel
theorem dL_isAsked_169 : decode cL_isAsked 169 = .ok (.iconst 0, 1) := by decide +kernel
theorem dL_isAsked_170 : decode cL_isAsked 170 = .ok (.istore 9, 2) := by decide +kernel
theorem dL_isAsked_172 : decode cL_isAsked 172 = .ok (.iload 9, 2) := by decide +kernel
theorem dL_isAsked_174 : decode cL_isAsked 174 = .ok (.bipush 8, 2) := by decide +kernel
theorem dL_isAsked_176 : decode cL_isAsked 176 = .ok (.if_icmp .ge 21, 3) := by decide +kernel
theorem dL_isAsked_179 : decode cL_isAsked 179 = .ok (.iload 6, 2) := by decide +kernel
theorem dL_isAsked_181 : decode cL_isAsked 181 = .ok (.aload_n 0, 1) := by decide +kernel
theorem dL_isAsked_182 : decode cL_isAsked 182 = .ok (.iload 9, 2) := by decide +kernel
theorem dL_isAsked_184 : decode cL_isAsked 184 = .ok (.iconst 5, 1) := by decide +kernel
theorem dL_isAsked_185 : decode cL_isAsked 185 = .ok (.invokevirtual 104, 3) := by decide +kernel
theorem dL_isAsked_188 : decode cL_isAsked 188 = .ok (.iadd, 1) := by decide +kernel
theorem dL_isAsked_189 : decode cL_isAsked 189 = .ok (.istore 6, 2) := by decide +kernel
theorem dL_isAsked_191 : decode cL_isAsked 191 = .ok (.iinc 9 1, 3) := by decide +kernel
theorem dL_isAsked_194 : decode cL_isAsked 194 = .ok (.goto (-22), 3) := by decide +kernel
theorem dL_isAsked_197 : decode cL_isAsked 197 = .ok (.iload 5, 2) := by decide +kernel
theorem dL_isAsked_199 : decode cL_isAsked 199 = .ok (.aload 4, 2) := by decide +kernel
theorem dL_isAsked_201 : decode cL_isAsked 201 = .ok (.iconst 0, 1) := by decide +kernel
theorem dL_isAsked_202 : decode cL_isAsked 202 = .ok (.iaload, 1) := by decide +kernel
theorem dL_isAsked_203 : decode cL_isAsked 203 = .ok (.aload 4, 2) := by decide +kernel
theorem dL_isAsked_205 : decode cL_isAsked 205 = .ok (.iconst 2, 1) := by decide +kernel
theorem dL_isAsked_206 : decode cL_isAsked 206 = .ok (.iaload, 1) := by decide +kernel
theorem dL_isAsked_207 : decode cL_isAsked 207 = .ok (.iadd, 1) := by decide +kernel
theorem dL_isAsked_208 : decode cL_isAsked 208 = .ok (.if_icmp .ne 47, 3) := by decide +kernel
theorem dL_isAsked_211 : decode cL_isAsked 211 = .ok (.iload 8, 2) := by decide +kernel
theorem dL_isAsked_213 : decode cL_isAsked 213 = .ok (.aload 4, 2) := by decide +kernel
theorem dL_isAsked_215 : decode cL_isAsked 215 = .ok (.iconst 2, 1) := by decide +kernel
theorem dL_isAsked_216 : decode cL_isAsked 216 = .ok (.iaload, 1) := by decide +kernel
theorem dL_isAsked_217 : decode cL_isAsked 217 = .ok (.if_icmp .ne 38, 3) := by decide +kernel
theorem dL_isAsked_220 : decode cL_isAsked 220 = .ok (.iload 6, 2) := by decide +kernel
theorem dL_isAsked_222 : decode cL_isAsked 222 = .ok (.aload 4, 2) := by decide +kernel
theorem dL_isAsked_224 : decode cL_isAsked 224 = .ok (.iconst 1, 1) := by decide +kernel
theorem dL_isAsked_225 : decode cL_isAsked 225 = .ok (.iaload, 1) := by decide +kernel
theorem dL_isAsked_226 : decode cL_isAsked 226 = .ok (.if_icmp .ne 29, 3) := by decide +kernel
theorem dL_isAsked_229 : decode cL_isAsked 229 = .ok (.aload 4, 2) := by decide +kernel
theorem dL_isAsked_231 : decode cL_isAsked 231 = .ok (.iconst 3, 1) := by decide +kernel
theorem dL_isAsked_232 : decode cL_isAsked 232 = .ok (.iaload, 1) := by decide +kernel
theorem dL_isAsked_233 : decode cL_isAsked 233 = .ok (.aload_n 0, 1) := by decide +kernel
theorem dL_isAsked_234 : decode cL_isAsked 234 = .ok (.bipush 6, 2) := by decide +kernel
theorem dL_isAsked_236 : decode cL_isAsked 236 = .ok (.invokevirtual 45, 3) := by decide +kernel
theorem dL_isAsked_239 : decode cL_isAsked 239 = .ok (.if_icmp .ne 16, 3) := by decide +kernel
theorem dL_isAsked_242 : decode cL_isAsked 242 = .ok (.iload 7, 2) := by decide +kernel
theorem dL_isAsked_244 : decode cL_isAsked 244 = .ok (.iload 5, 2) := by decide +kernel
theorem dL_isAsked_246 : decode cL_isAsked 246 = .ok (.iadd, 1) := by decide +kernel
theorem dL_isAsked_247 : decode cL_isAsked 247 = .ok (.iload 6, 2) := by decide +kernel
theorem dL_isAsked_249 : decode cL_isAsked 249 = .ok (.iadd, 1) := by decide +kernel
theorem dL_isAsked_250 : decode cL_isAsked 250 = .ok (.bipush 24, 2) := by decide +kernel
theorem dL_isAsked_252 : decode cL_isAsked 252 = .ok (.if_icmp .le 5, 3) := by decide +kernel
theorem dL_isAsked_255 : decode cL_isAsked 255 = .ok (.iconst 0, 1) := by decide +kernel
theorem dL_isAsked_256 : decode cL_isAsked 256 = .ok (.ireturn, 1) := by decide +kernel
theorem dL_isAsked_257 : decode cL_isAsked 257 = .ok (.iconst 0, 1) := by decide +kernel
theorem dL_isAsked_258 : decode cL_isAsked 258 = .ok (.istore 9, 2) := by decide +kernel
theorem dL_isAsked_260 : decode cL_isAsked 260 = .ok (.iconst 0, 1) := by decide +kernel
theorem dL_isAsked_261 : decode cL_isAsked 261 = .ok (.istore 10, 2) := by decide +kernel
theorem dL_isAsked_263 : decode cL_isAsked 263 = .ok (.iconst 0, 1) := by decide +kernel
theorem dL_isAsked_264 : decode cL_isAsked 264 = .ok (.istore 11, 2) := by decide +kernel
theorem dL_isAsked_266 : decode cL_isAsked 266 = .ok (.iconst 0, 1) := by decide +kernel
theorem dL_isAsked_267 : decode cL_isAsked 267 = .ok (.istore 12, 2) := by decide +kernel
theorem dL_isAsked_269 : decode cL_isAsked 269 = .ok (.iconst 5, 1) := by decide +kernel
theorem dL_isAsked_270 : decode cL_isAsked 270 = .ok (.newarray .int, 2) := by decide +kernel
theorem dL_isAsked_272 : decode cL_isAsked 272 = .ok (.dup, 1) := by decide +kernel
theorem dL_isAsked_273 : decode cL_isAsked 273 = .ok (.iconst 0, 1) := by decide +kernel
theorem dL_isAsked_274 : decode cL_isAsked 274 = .ok (.iconst 1, 1) := by decide +kernel
theorem dL_isAsked_275 : decode cL_isAsked 275 = .ok (.iastore, 1) := by decide +kernel
theorem dL_isAsked_276 : decode cL_isAsked 276 = .ok (.dup, 1) := by decide +kernel
theorem dL_isAsked_277 : decode cL_isAsked 277 = .ok (.iconst 1, 1) := by decide +kernel
theorem dL_isAsked_278 : decode cL_isAsked 278 = .ok (.iconst 4, 1) := by decide +kernel
theorem dL_isAsked_279 : decode cL_isAsked 279 = .ok (.iastore, 1) := by decide +kernel
theorem dL_isAsked_280 : decode cL_isAsked 280 = .ok (.dup, 1) := by decide +kernel
theorem dL_isAsked_281 : decode cL_isAsked 281 = .ok (.iconst 2, 1) := by decide +kernel
theorem dL_isAsked_282 : decode cL_isAsked 282 = .ok (.iconst 3, 1) := by decide +kernel
theorem dL_isAsked_283 : decode cL_isAsked 283 = .ok (.iastore, 1) := by decide +kernel
theorem dL_isAsked_284 : decode cL_isAsked 284 = .ok (.dup, 1) := by decide +kernel
theorem dL_isAsked_285 : decode cL_isAsked 285 = .ok (.iconst 3, 1) := by decide +kernel
theorem dL_isAsked_286 : decode cL_isAsked 286 = .ok (.bipush 6, 2) := by decide +kernel
theorem dL_isAsked_288 : decode cL_isAsked 288 = .ok (.iastore, 1) := by decide +kernel
theorem dL_isAsked_289 : decode cL_isAsked 289 = .ok (.dup, 1) := by decide +kernel
theorem dL_isAsked_290 : decode cL_isAsked 290 = .ok (.iconst 4, 1) := by decide +kernel
theorem dL_isAsked_291 : decode cL_isAsked 291 = .ok (.iconst 0, 1) := by decide +kernel
theorem dL_isAsked_292 : decode cL_isAsked 292 = .ok (.iastore, 1) := by decide +kernel
theorem dL_isAsked_293 : decode cL_isAsked 293 = .ok (.astore 13, 2) := by decide +kernel
theorem dL_isAsked_295 : decode cL_isAsked 295 = .ok (.iconst 0, 1) := by decide +kernel
theorem dL_isAsked_296 : decode cL_isAsked 296 = .ok (.istore 14, 2) := by decide +kernel
theorem dL_isAsked_298 : decode cL_isAsked 298 = .ok (.iload 14, 2) := by decide +kernel
theorem dL_isAsked_300 : decode cL_isAsked 300 = .ok (.bipush 6, 2) := by decide +kernel
theorem dL_isAsked_302 : decode cL_isAsked 302 = .ok (.if_icmp .ge 114, 3) := by decide +kernel
theorem dL_isAsked_305 : decode cL_isAsked 305 = .ok (.iload 9, 2) := by decide +kernel
theorem dL_isAsked_307 : decode cL_isAsked 307 = .ok (.aload_n 0, 1) := by decide +kernel
theorem dL_isAsked_308 : decode cL_isAsked 308 = .ok (.iload 14, 2) := by decide +kernel
theorem dL_isAsked_310 : decode cL_isAsked 310 = .ok (.bipush 8, 2) := by decide +kernel
theorem dL_isAsked_312 : decode cL_isAsked 312 = .ok (.invokevirtual 107, 3) := by decide +kernel
theorem dL_isAsked_315 : decode cL_isAsked 315 = .ok (.iadd, 1) := by decide +kernel
theorem dL_isAsked_316 : decode cL_isAsked 316 = .ok (.istore 9, 2) := by decide +kernel
theorem dL_isAsked_318 : decode cL_isAsked 318 = .ok (.iload 10, 2) := by decide +kernel
theorem dL_isAsked_320 : decode cL_isAsked 320 = .ok (.aload_n 0, 1) := by decide +kernel
theorem dL_isAsked_321 : decode cL_isAsked 321 = .ok (.iload 14, 2) := by decide +kernel
theorem dL_isAsked_323 : decode cL_isAsked 323 = .ok (.bipush 11, 2) := by decide +kernel
theorem dL_isAsked_325 : decode cL_isAsked 325 = .ok (.invokevirtual 107, 3) := by decide +kernel
theorem dL_isAsked_328 : decode cL_isAsked 328 = .ok (.iadd, 1) := by decide +kernel
theorem dL_isAsked_329 : decode cL_isAsked 329 = .ok (.istore 10, 2) := by decide +kernel
theorem dL_isAsked_331 : decode cL_isAsked 331 = .ok (.iload 11, 2) := by decide +kernel
theorem dL_isAsked_333 : decode cL_isAsked 333 = .ok (.aload_n 0, 1) := by decide +kernel
theorem dL_isAsked_334 : decode cL_isAsked 334 = .ok (.iload 14, 2) := by decide +kernel
theorem dL_isAsked_336 : decode cL_isAsked 336 = .ok (.bipush 9, 2) := by decide +kernel
theorem dL_isAsked_338 : decode cL_isAsked 338 = .ok (.invokevirtual 107, 3) := by decide +kernel
theorem dL_isAsked_341 : decode cL_isAsked 341 = .ok (.iadd, 1) := by decide +kernel
theorem dL_isAsked_342 : decode cL_isAsked 342 = .ok (.istore 11, 2) := by decide +kernel
theorem dL_isAsked_344 : decode cL_isAsked 344 = .ok (.iload 12, 2) := by decide +kernel
theorem dL_isAsked_346 : decode cL_isAsked 346 = .ok (.aload 13, 2) := by decide +kernel
theorem dL_isAsked_348 : decode cL_isAsked 348 = .ok (.aload_n 1, 1) := by decide +kernel
theorem dL_isAsked_349 : decode cL_isAsked 349 = .ok (.iload 14, 2) := by decide +kernel
theorem dL_isAsked_351 : decode cL_isAsked 351 = .ok (.iaload, 1) := by decide +kernel
theorem dL_isAsked_352 : decode cL_isAsked 352 = .ok (.iaload, 1) := by decide +kernel
theorem dL_isAsked_353 : decode cL_isAsked 353 = .ok (.aload_n 0, 1) := by decide +kernel
theorem dL_isAsked_354 : decode cL_isAsked 354 = .ok (.iload 14, 2) := by decide +kernel
theorem dL_isAsked_356 : decode cL_isAsked 356 = .ok (.bipush 9, 2) := by decide +kernel
theorem dL_isAsked_358 : decode cL_isAsked 358 = .ok (.invokevirtual 107, 3) := by decide +kernel
theorem dL_isAsked_361 : decode cL_isAsked 361 = .ok (.imul, 1) := by decide +kernel
theorem dL_isAsked_362 : decode cL_isAsked 362 = .ok (.iadd, 1) := by decide +kernel
theorem dL_isAsked_363 : decode cL_isAsked 363 = .ok (.istore 12, 2) := by decide +kernel
theorem dL_isAsked_365 : decode cL_isAsked 365 = .ok (.aload_n 0, 1) := by decide +kernel
theorem dL_isAsked_366 : decode cL_isAsked 366 = .ok (.iload 14, 2) := by decide +kernel
theorem dL_isAsked_368 : decode cL_isAsked 368 = .ok (.bipush 7, 2) := by decide +kernel
theorem dL_isAsked_370 : decode cL_isAsked 370 = .ok (.invokevirtual 107, 3) := by decide +kernel
theorem dL_isAsked_373 : decode cL_isAsked 373 = .ok (.aload_n 0, 1) := by decide +kernel
theorem dL_isAsked_374 : decode cL_isAsked 374 = .ok (.iload 14, 2) := by decide +kernel
theorem dL_isAsked_376 : decode cL_isAsked 376 = .ok (.iconst 1, 1) := by decide +kernel
theorem dL_isAsked_377 : decode cL_isAsked 377 = .ok (.invokevirtual 107, 3) := by decide +kernel
theorem dL_isAsked_380 : decode cL_isAsked 380 = .ok (.if_icmp .ge 30, 3) := by decide +kernel
theorem dL_isAsked_383 : decode cL_isAsked 383 = .ok (.aload_n 0, 1) := by decide +kernel
theorem dL_isAsked_384 : decode cL_isAsked 384 = .ok (.iload 14, 2) := by decide +kernel
theorem dL_isAsked_386 : decode cL_isAsked 386 = .ok (.iconst 4, 1) := by decide +kernel
theorem dL_isAsked_387 : decode cL_isAsked 387 = .ok (.invokevirtual 107, 3) := by decide +kernel
theorem dL_isAsked_390 : decode cL_isAsked 390 = .ok (.iconst 3, 1) := by decide +kernel
theorem dL_isAsked_391 : decode cL_isAsked 391 = .ok (.if_icmp .eq 19, 3) := by decide +kernel
theorem dL_isAsked_394 : decode cL_isAsked 394 = .ok (.aload_n 0, 1) := by decide +kernel
theorem dL_isAsked_395 : decode cL_isAsked 395 = .ok (.iload 14, 2) := by decide +kernel
theorem dL_isAsked_397 : decode cL_isAsked 397 = .ok (.sipush 2880, 3) := by decide +kernel
theorem dL_isAsked_400 : decode cL_isAsked 400 = .ok (.invokevirtual 110, 3) := by decide +kernel
theorem dL_isAsked_403 : decode cL_isAsked 403 = .ok (.bipush (-20), 2) := by decide +kernel
theorem dL_isAsked_405 : decode cL_isAsked 405 = .ok (.if_icmp .ge 5, 3) := by decide +kernel
theorem dL_isAsked_408 : decode cL_isAsked 408 = .ok (.iconst 0, 1) := by decide +kernel
theorem dL_isAsked_409 : decode cL_isAsked 409 = .ok (.ireturn, 1) := by decide +kernel
theorem dL_isAsked_410 : decode cL_isAsked 410 = .ok (.iinc 14 1, 3) := by decide +kernel
theorem dL_isAsked_413 : decode cL_isAsked 413 = .ok (.goto (-115), 3) := by decide +kernel
theorem dL_isAsked_416 : decode cL_isAsked 416 = .ok (.aload_n 0, 1) := by decide +kernel
theorem dL_isAsked_417 : decode cL_isAsked 417 = .ok (.iconst 0, 1) := by decide +kernel
theorem dL_isAsked_418 : decode cL_isAsked 418 = .ok (.iconst 2, 1) := by decide +kernel
theorem dL_isAsked_419 : decode cL_isAsked 419 = .ok (.invokevirtual 113, 3) := by decide +kernel
theorem dL_isAsked_422 : decode cL_isAsked 422 = .ok (.aload_n 0, 1) := by decide +kernel
theorem dL_isAsked_423 : decode cL_isAsked 423 = .ok (.iconst 1, 1) := by decide +kernel
theorem dL_isAsked_424 : decode cL_isAsked 424 = .ok (.iconst 2, 1) := by decide +kernel
theorem dL_isAsked_425 : decode cL_isAsked 425 = .ok (.invokevirtual 113, 3) := by decide +kernel
theorem dL_isAsked_428 : decode cL_isAsked 428 = .ok (.iadd, 1) := by decide +kernel
theorem dL_isAsked_429 : decode cL_isAsked 429 = .ok (.aload_n 0, 1) := by decide +kernel
theorem dL_isAsked_430 : decode cL_isAsked 430 = .ok (.iconst 2, 1) := by decide +kernel
theorem dL_isAsked_431 : decode cL_isAsked 431 = .ok (.iconst 2, 1) := by decide +kernel
theorem dL_isAsked_432 : decode cL_isAsked 432 = .ok (.invokevirtual 113, 3) := by decide +kernel
theorem dL_isAsked_435 : decode cL_isAsked 435 = .ok (.iadd, 1) := by decide +kernel
theorem dL_isAsked_436 : decode cL_isAsked 436 = .ok (.istore 14, 2) := by decide +kernel
theorem dL_isAsked_438 : decode cL_isAsked 438 = .ok (.iload 9, 2) := by decide +kernel
theorem dL_isAsked_440 : decode cL_isAsked 440 = .ok (.aload_n 0, 1) := by decide +kernel
theorem dL_isAsked_441 : decode cL_isAsked 441 = .ok (.bipush 9, 2) := by decide +kernel
theorem dL_isAsked_443 : decode cL_isAsked 443 = .ok (.invokevirtual 45, 3) := by decide +kernel
theorem dL_isAsked_446 : decode cL_isAsked 446 = .ok (.if_icmp .ne 66, 3) := by decide +kernel
theorem dL_isAsked_449 : decode cL_isAsked 449 = .ok (.iload 10, 2) := by decide +kernel
theorem dL_isAsked_451 : decode cL_isAsked 451 = .ok (.aload_n 0, 1) := by decide +kernel
theorem dL_isAsked_452 : decode cL_isAsked 452 = .ok (.bipush 8, 2) := by decide +kernel
theorem dL_isAsked_454 : decode cL_isAsked 454 = .ok (.invokevirtual 45, 3) := by decide +kernel
theorem dL_isAsked_457 : decode cL_isAsked 457 = .ok (.iadd, 1) := by decide +kernel
theorem dL_isAsked_458 : decode cL_isAsked 458 = .ok (.aload_n 0, 1) := by decide +kernel
theorem dL_isAsked_459 : decode cL_isAsked 459 = .ok (.bipush 7, 2) := by decide +kernel
theorem dL_isAsked_461 : decode cL_isAsked 461 = .ok (.invokevirtual 45, 3) := by decide +kernel
theorem dL_isAsked_464 : decode cL_isAsked 464 = .ok (.if_icmp .ne 48, 3) := by decide +kernel
theorem dL_isAsked_467 : decode cL_isAsked 467 = .ok (.iload 14, 2) := by decide +kernel
theorem dL_isAsked_469 : decode cL_isAsked 469 = .ok (.iload 11, 2) := by decide +kernel
theorem dL_isAsked_471 : decode cL_isAsked 471 = .ok (.if_icmp .ne 41, 3) := by decide +kernel
theorem dL_isAsked_474 : decode cL_isAsked 474 = .ok (.iload 12, 2) := by decide +kernel
theorem dL_isAsked_476 : decode cL_isAsked 476 = .ok (.aload_n 0, 1) := by decide +kernel
theorem dL_isAsked_477 : decode cL_isAsked 477 = .ok (.iconst 0, 1) := by decide +kernel
theorem dL_isAsked_478 : decode cL_isAsked 478 = .ok (.iconst 3, 1) := by decide +kernel
theorem dL_isAsked_479 : decode cL_isAsked 479 = .ok (.invokevirtual 113, 3) := by decide +kernel
theorem dL_isAsked_482 : decode cL_isAsked 482 = .ok (.aload_n 0, 1) := by decide +kernel
theorem dL_isAsked_483 : decode cL_isAsked 483 = .ok (.iconst 1, 1) := by decide +kernel
theorem dL_isAsked_484 : decode cL_isAsked 484 = .ok (.iconst 3, 1) := by decide +kernel
theorem dL_isAsked_485 : decode cL_isAsked 485 = .ok (.invokevirtual 113, 3) := by decide +kernel
theorem dL_isAsked_488 : decode cL_isAsked 488 = .ok (.iadd, 1) := by decide +kernel
theorem dL_isAsked_489 : decode cL_isAsked 489 = .ok (.aload_n 0, 1) := by decide +kernel
theorem dL_isAsked_490 : decode cL_isAsked 490 = .ok (.iconst 2, 1) := by decide +kernel
theorem dL_isAsked_491 : decode cL_isAsked 491 = .ok (.iconst 3, 1) := by decide +kernel
theorem dL_isAsked_492 : decode cL_isAsked 492 = .ok (.invokevirtual 113, 3) := by decide +kernel
theorem dL_isAsked_495 : decode cL_isAsked 495 = .ok (.iadd, 1) := by decide +kernel
theorem dL_isAsked_496 : decode cL_isAsked 496 = .ok (.if_icmp .ne 16, 3) := by decide +kernel
theorem dL_isAsked_499 : decode cL_isAsked 499 = .ok (.aload_n 0, 1) := by decide +kernel
theorem dL_isAsked_500 : decode cL_isAsked 500 = .ok (.invokevirtual 94, 3) := by decide +kernel
theorem dL_isAsked_503 : decode cL_isAsked 503 = .ok (.lload_n 2, 1) := by decide +kernel
theorem dL_isAsked_504 : decode cL_isAsked 504 = .ok (.lcmp, 1) := by decide +kernel
theorem dL_isAsked_505 : decode cL_isAsked 505 = .ok (.ifCond .ne 7, 3) := by decide +kernel
theorem dL_isAsked_508 : decode cL_isAsked 508 = .ok (.iconst 1, 1) := by decide +kernel
theorem dL_isAsked_509 : decode cL_isAsked 509 = .ok (.goto 4, 3) := by decide +kernel
theorem dL_isAsked_512 : decode cL_isAsked 512 = .ok (.iconst 0, 1) := by decide +kernel
theorem dL_isAsked_513 : decode cL_isAsked 513 = .ok (.ireturn, 1) := by decide +kernel
