theorem dL_cell_0 : decode cL_cell 0 = .ok (.iload_n 1, 1) := by decide +kernel
theorem dL_cell_1 : decode cL_cell 1 = .ok (.aload_n 0, 1) := by decide +kernel
theorem dL_cell_2 : decode cL_cell 2 = .ok (.arraylength, 1) := by decide +kernel
theorem dL_cell_3 : decode cL_cell 3 = .ok (.if_icmp .ge 9, 3) := by decide +kernel
theorem dL_cell_6 : decode cL_cell 6 = .ok (.aload_n 0, 1) := by decide +kernel
theorem dL_cell_7 : decode cL_cell 7 = .ok (.iload_n 1, 1) := by decide +kernel
theorem dL_cell_8 : decode cL_cell 8 = .ok (.iaload, 1) := by decide +kernel
theorem dL_cell_9 : decode cL_cell 9 = .ok (.goto 11, 3) := by decide +kernel
theorem dL_cell_12 : decode cL_cell 12 = .ok (.ldc 7, 2) := by decide +kernel
theorem dL_cell_14 : decode cL_cell 14 = .ok (.iload_n 1, 1) := by decide +kernel
theorem dL_cell_15 : decode cL_cell 15 = .ok (.imul, 1) := by decide +kernel
theorem dL_cell_16 : decode cL_cell 16 = .ok (.sipush 5501, 3) := by decide +kernel
theorem dL_cell_19 : decode cL_cell 19 = .ok (.iadd, 1) := by decide +kernel
theorem dL_cell_20 : decode cL_cell 20 = .ok (.ireturn, 1) := by decide +kernel
theorem dL_low_0 : decode cL_low 0 = .ok (.iload_n 0, 1) := by decide +kernel
theorem dL_low_1 : decode cL_low 1 = .ok (.ldc 8, 2) := by decide +kernel
theorem dL_low_3 : decode cL_low 3 = .ok (.iand, 1) := by decide +kernel
theorem dL_low_4 : decode cL_low 4 = .ok (.iload_n 1, 1) := by decide +kernel
theorem dL_low_5 : decode cL_low 5 = .ok (.irem, 1) := by decide +kernel
theorem dL_low_6 : decode cL_low 6 = .ok (.ireturn, 1) := by decide +kernel
theorem dL_reach_0 : decode cL_reach 0 = .ok (.iconst 1, 1) := by decide +kernel
theorem dL_reach_1 : decode cL_reach 1 = .ok (.iload_n 1, 1) := by decide +kernel
theorem dL_reach_2 : decode cL_reach 2 = .ok (.ishl, 1) := by decide +kernel
theorem dL_reach_3 : decode cL_reach 3 = .ok (.istore_n 3, 1) := by decide +kernel
theorem dL_reach_4 : decode cL_reach 4 = .ok (.iconst 0, 1) := by decide +kernel
theorem dL_reach_5 : decode cL_reach 5 = .ok (.istore 4, 2) := by decide +kernel
theorem dL_reach_7 : decode cL_reach 7 = .ok (.iload 4, 2) := by decide +kernel
theorem dL_reach_9 : decode cL_reach 9 = .ok (.aload_n 0, 1) := by decide +kernel
theorem dL_reach_10 : decode cL_reach 10 = .ok (.iconst 0, 1) := by decide +kernel
theorem dL_reach_11 : decode cL_reach 11 = .ok (.invokevirtual 9, 3) := by decide +kernel
theorem dL_reach_14 : decode cL_reach 14 = .ok (.if_icmp .ge 97, 3) := by decide +kernel
theorem dL_reach_17 : decode cL_reach 17 = .ok (.iconst 0, 1) := by decide +kernel
theorem dL_reach_18 : decode cL_reach 18 = .ok (.istore 5, 2) := by decide +kernel
theorem dL_reach_20 : decode cL_reach 20 = .ok (.iload 5, 2) := by decide +kernel
theorem dL_reach_22 : decode cL_reach 22 = .ok (.aload_n 0, 1) := by decide +kernel
theorem dL_reach_23 : decode cL_reach 23 = .ok (.iconst 1, 1) := by decide +kernel
theorem dL_reach_24 : decode cL_reach 24 = .ok (.invokevirtual 9, 3) := by decide +kernel
theorem dL_reach_27 : decode cL_reach 27 = .ok (.if_icmp .ge 78, 3) := by decide +kernel
theorem dL_reach_30 : decode cL_reach 30 = .ok (.iconst 1, 1) := by decide +kernel
theorem dL_reach_31 : decode cL_reach 31 = .ok (.aload_n 0, 1) := by decide +kernel
theorem dL_reach_32 : decode cL_reach 32 = .ok (.iload 5, 2) := by decide +kernel
theorem dL_reach_34 : decode cL_reach 34 = .ok (.iconst 0, 1) := by decide +kernel
theorem dL_reach_35 : decode cL_reach 35 = .ok (.invokevirtual 15, 3) := by decide +kernel
theorem dL_reach_38 : decode cL_reach 38 = .ok (.ishl, 1) := by decide +kernel
theorem dL_reach_39 : decode cL_reach 39 = .ok (.iconst 1, 1) := by decide +kernel
theorem dL_reach_40 : decode cL_reach 40 = .ok (.aload_n 0, 1) := by decide +kernel
theorem dL_reach_41 : decode cL_reach 41 = .ok (.iload 5, 2) := by decide +kernel
theorem dL_reach_43 : decode cL_reach 43 = .ok (.iconst 1, 1) := by decide +kernel
theorem dL_reach_44 : decode cL_reach 44 = .ok (.invokevirtual 15, 3) := by decide +kernel
theorem dL_reach_47 : decode cL_reach 47 = .ok (.ishl, 1) := by decide +kernel
theorem dL_reach_48 : decode cL_reach 48 = .ok (.ior, 1) := by decide +kernel
theorem dL_reach_49 : decode cL_reach 49 = .ok (.istore 6, 2) := by decide +kernel
theorem dL_reach_51 : decode cL_reach 51 = .ok (.aload_n 0, 1) := by decide +kernel
theorem dL_reach_52 : decode cL_reach 52 = .ok (.iload 5, 2) := by decide +kernel
theorem dL_reach_54 : decode cL_reach 54 = .ok (.iconst 5, 1) := by decide +kernel
theorem dL_reach_55 : decode cL_reach 55 = .ok (.invokevirtual 15, 3) := by decide +kernel
theorem dL_reach_58 : decode cL_reach 58 = .ok (.ifCond .ge 13, 3) := by decide +kernel
theorem dL_reach_61 : decode cL_reach 61 = .ok (.iload_n 2, 1) := by decide +kernel
theorem dL_reach_62 : decode cL_reach 62 = .ok (.iload 5, 2) := by decide +kernel
theorem dL_reach_64 : decode cL_reach 64 = .ok (.ishr, 1) := by decide +kernel
theorem dL_reach_65 : decode cL_reach 65 = .ok (.iconst 1, 1) := by decide +kernel
theorem dL_reach_66 : decode cL_reach 66 = .ok (.iand, 1) := by decide +kernel
theorem dL_reach_67 : decode cL_reach 67 = .ok (.iconst 1, 1) := by decide +kernel
theorem dL_reach_68 : decode cL_reach 68 = .ok (.if_icmp .ne 7, 3) := by decide +kernel
theorem dL_reach_71 : decode cL_reach 71 = .ok (.iconst 1, 1) := by decide +kernel
theorem dL_reach_72 : decode cL_reach 72 = .ok (.goto 4, 3) := by decide +kernel
theorem dL_reach_75 : decode cL_reach 75 = .ok (.iconst 0, 1) := by decide +kernel
theorem dL_reach_76 : decode cL_reach 76 = .ok (.istore 7, 2) := by decide +kernel
theorem dL_reach_78 : decode cL_reach 78 = .ok (.iload_n 3, 1) := by decide +kernel
theorem dL_reach_79 : decode cL_reach 79 = .ok (.iload 7, 2) := by decide +kernel
theorem dL_reach_81 : decode cL_reach 81 = .ok (.ifCond .eq 15, 3) := by decide +kernel
theorem dL_reach_84 : decode cL_reach 84 = .ok (.iload_n 3, 1) := by decide +kernel
theorem dL_reach_85 : decode cL_reach 85 = .ok (.iload 6, 2) := by decide +kernel
theorem dL_reach_87 : decode cL_reach 87 = .ok (.iand, 1) := by decide +kernel
theorem dL_reach_88 : decode cL_reach 88 = .ok (.ifCond .eq 8, 3) := by decide +kernel
theorem dL_reach_91 : decode cL_reach 91 = .ok (.iload 6, 2) := by decide +kernel
theorem dL_reach_93 : decode cL_reach 93 = .ok (.goto 4, 3) := by decide +kernel
theorem dL_reach_96 : decode cL_reach 96 = .ok (.iconst 0, 1) := by decide +kernel
theorem dL_reach_97 : decode cL_reach 97 = .ok (.ior, 1) := by decide +kernel
theorem dL_reach_98 : decode cL_reach 98 = .ok (.istore_n 3, 1) := by decide +kernel
theorem dL_reach_99 : decode cL_reach 99 = .ok (.iinc 5 1, 3) := by decide +kernel
theorem dL_reach_102 : decode cL_reach 102 = .ok (.goto (-82), 3) := by decide +kernel
theorem dL_reach_105 : decode cL_reach 105 = .ok (.iinc 4 1, 3) := by decide +kernel
theorem dL_reach_108 : decode cL_reach 108 = .ok (.goto (-101), 3) := by decide +kernel
theorem dL_reach_111 : decode cL_reach 111 = .ok (.iload_n 3, 1) := by decide +kernel
theorem dL_reach_112 : decode cL_reach 112 = .ok (.ireturn, 1) := by decide +kernel
theorem dL_plans_0 : decode cL_plans 0 = .ok (.aload_n 0, 1) := by decide +kernel
theorem dL_plans_1 : decode cL_plans 1 = .ok (.iconst 4, 1) := by decide +kernel
theorem dL_plans_2 : decode cL_plans 2 = .ok (.invokevirtual 9, 3) := by decide +kernel
theorem dL_plans_5 : decode cL_plans 5 = .ok (.istore_n 2, 1) := by decide +kernel
theorem dL_plans_6 : decode cL_plans 6 = .ok (.aload_n 0, 1) := by decide +kernel
theorem dL_plans_7 : decode cL_plans 7 = .ok (.iload_n 1, 1) := by decide +kernel
theorem dL_plans_8 : decode cL_plans 8 = .ok (.iconst 1, 1) := by decide +kernel
theorem dL_plans_9 : decode cL_plans 9 = .ok (.invokevirtual 19, 3) := by decide +kernel
theorem dL_plans_12 : decode cL_plans 12 = .ok (.istore_n 3, 1) := by decide +kernel
theorem dL_plans_13 : decode cL_plans 13 = .ok (.iconst 0, 1) := by decide +kernel
theorem dL_plans_14 : decode cL_plans 14 = .ok (.istore 4, 2) := by decide +kernel
theorem dL_plans_16 : decode cL_plans 16 = .ok (.iconst 0, 1) := by decide +kernel
theorem dL_plans_17 : decode cL_plans 17 = .ok (.istore 5, 2) := by decide +kernel
theorem dL_plans_19 : decode cL_plans 19 = .ok (.aload_n 0, 1) := by decide +kernel
theorem dL_plans_20 : decode cL_plans 20 = .ok (.iload_n 1, 1) := by decide +kernel
theorem dL_plans_21 : decode cL_plans 21 = .ok (.iconst 1, 1) := by decide +kernel
theorem dL_plans_22 : decode cL_plans 22 = .ok (.invokevirtual 22, 3) := by decide +kernel
theorem dL_plans_25 : decode cL_plans 25 = .ok (.istore 6, 2) := by decide +kernel
theorem dL_plans_27 : decode cL_plans 27 = .ok (.iload_n 2, 1) := by decide +kernel
theorem dL_plans_28 : decode cL_plans 28 = .ok (.ifCond .lt 22, 3) := by decide +kernel
theorem dL_plans_31 : decode cL_plans 31 = .ok (.aload_n 0, 1) := by decide +kernel
theorem dL_plans_32 : decode cL_plans 32 = .ok (.iload 6, 2) := by decide +kernel
theorem dL_plans_34 : decode cL_plans 34 = .ok (.iconst 0, 1) := by decide +kernel
theorem dL_plans_35 : decode cL_plans 35 = .ok (.invokestatic 25, 3) := by decide +kernel
theorem dL_plans_38 : decode cL_plans 38 = .ok (.iload_n 2, 1) := by decide +kernel
theorem dL_plans_39 : decode cL_plans 39 = .ok (.ishr, 1) := by decide +kernel
theorem dL_plans_40 : decode cL_plans 40 = .ok (.iconst 1, 1) := by decide +kernel
theorem dL_plans_41 : decode cL_plans 41 = .ok (.iand, 1) := by decide +kernel
theorem dL_plans_42 : decode cL_plans 42 = .ok (.iconst 1, 1) := by decide +kernel
theorem dL_plans_43 : decode cL_plans 43 = .ok (.if_icmp .ne 7, 3) := by decide +kernel
theorem dL_plans_46 : decode cL_plans 46 = .ok (.iconst 1, 1) := by decide +kernel
theorem dL_plans_47 : decode cL_plans 47 = .ok (.goto 4, 3) := by decide +kernel
theorem dL_plans_50 : decode cL_plans 50 = .ok (.iconst 0, 1) := by decide +kernel
theorem dL_plans_51 : decode cL_plans 51 = .ok (.istore 7, 2) := by decide +kernel
theorem dL_plans_53 : decode cL_plans 53 = .ok (.iload_n 3, 1) := by decide +kernel
theorem dL_plans_54 : decode cL_plans 54 = .ok (.ifCond .ge 42, 3) := by decide +kernel
theorem dL_plans_57 : decode cL_plans 57 = .ok (.iload_n 3, 1) := by decide +kernel
theorem dL_plans_58 : decode cL_plans 58 = .ok (.bipush (-6), 2) := by decide +kernel
theorem dL_plans_60 : decode cL_plans 60 = .ok (.if_icmp .ne 34, 3) := by decide +kernel
theorem dL_plans_63 : decode cL_plans 63 = .ok (.aload_n 0, 1) := by decide +kernel
theorem dL_plans_64 : decode cL_plans 64 = .ok (.iload_n 1, 1) := by decide +kernel
theorem dL_plans_65 : decode cL_plans 65 = .ok (.iconst 0, 1) := by decide +kernel
theorem dL_plans_66 : decode cL_plans 66 = .ok (.invokevirtual 19, 3) := by decide +kernel
theorem dL_plans_69 : decode cL_plans 69 = .ok (.bipush (-6), 2) := by decide +kernel
theorem dL_plans_71 : decode cL_plans 71 = .ok (.if_icmp .ne 23, 3) := by decide +kernel
theorem dL_plans_74 : decode cL_plans 74 = .ok (.aload_n 0, 1) := by decide +kernel
theorem dL_plans_75 : decode cL_plans 75 = .ok (.iload_n 1, 1) := by decide +kernel
theorem dL_plans_76 : decode cL_plans 76 = .ok (.iconst 0, 1) := by decide +kernel
theorem dL_plans_77 : decode cL_plans 77 = .ok (.invokevirtual 31, 3) := by decide +kernel
theorem dL_plans_80 : decode cL_plans 80 = .ok (.bipush (-6), 2) := by decide +kernel
theorem dL_plans_82 : decode cL_plans 82 = .ok (.if_icmp .ne 12, 3) := by decide +kernel
theorem dL_plans_85 : decode cL_plans 85 = .ok (.iload 7, 2) := by decide +kernel
theorem dL_plans_87 : decode cL_plans 87 = .ok (.ifCond .ne 7, 3) := by decide +kernel
theorem dL_plans_90 : decode cL_plans 90 = .ok (.iconst 1, 1) := by decide +kernel
theorem dL_plans_91 : decode cL_plans 91 = .ok (.goto 4, 3) := by decide +kernel
theorem dL_plans_94 : decode cL_plans 94 = .ok (.iconst 0, 1) := by decide +kernel
theorem dL_plans_95 : decode cL_plans 95 = .ok (.ireturn, 1) := by decide +kernel
theorem dL_plans_96 : decode cL_plans 96 = .ok (.iload_n 2, 1) := by decide +kernel
theorem dL_plans_97 : decode cL_plans 97 = .ok (.ifCond .lt 17, 3) := by decide +kernel
theorem dL_plans_100 : decode cL_plans 100 = .ok (.iload 7, 2) := by decide +kernel
theorem dL_plans_102 : decode cL_plans 102 = .ok (.iload_n 3, 1) := by decide +kernel
theorem dL_plans_103 : decode cL_plans 103 = .ok (.ifCond .ne 7, 3) := by decide +kernel
theorem dL_plans_106 : decode cL_plans 106 = .ok (.iconst 1, 1) := by decide +kernel
theorem dL_plans_107 : decode cL_plans 107 = .ok (.goto 4, 3) := by decide +kernel
theorem dL_plans_110 : decode cL_plans 110 = .ok (.iconst 0, 1) := by decide +kernel
theorem dL_plans_111 : decode cL_plans 111 = .ok (.if_icmp .eq 5, 3) := by decide +kernel
theorem dL_plans_114 : decode cL_plans 114 = .ok (.iconst 0, 1) := by decide +kernel
theorem dL_plans_115 : decode cL_plans 115 = .ok (.ireturn, 1) := by decide +kernel
theorem dL_plans_116 : decode cL_plans 116 = .ok (.bipush 6, 2) := by decide +kernel
theorem dL_plans_118 : decode cL_plans 118 = .ok (.newarray .int, 2) := by decide +kernel
theorem dL_plans_120 : decode cL_plans 120 = .ok (.astore 8, 2) := by decide +kernel
theorem dL_plans_122 : decode cL_plans 122 = .ok (.iconst 0, 1) := by decide +kernel
theorem dL_plans_123 : decode cL_plans 123 = .ok (.istore 9, 2) := by decide +kernel
theorem dL_plans_125 : decode cL_plans 125 = .ok (.iload 9, 2) := by decide +kernel
theorem dL_plans_127 : decode cL_plans 127 = .ok (.iload_n 3, 1) := by decide +kernel
theorem dL_plans_128 : decode cL_plans 128 = .ok (.if_icmp .ge 252, 3) := by decide +kernel
theorem dL_plans_131 : decode cL_plans 131 = .ok (.aload_n 0, 1) := by decide +kernel
theorem dL_plans_132 : decode cL_plans 132 = .ok (.iload_n 1, 1) := by decide +kernel
theorem dL_plans_133 : decode cL_plans 133 = .ok (.iload 9, 2) := by decide +kernel
theorem dL_plans_135 : decode cL_plans 135 = .ok (.invokevirtual 31, 3) := by decide +kernel
theorem dL_plans_138 : decode cL_plans 138 = .ok (.istore 10, 2) := by decide +kernel
theorem dL_plans_140 : decode cL_plans 140 = .ok (.aload_n 0, 1) := by decide +kernel
theorem dL_plans_141 : decode cL_plans 141 = .ok (.iload 6, 2) := by decide +kernel
theorem dL_plans_143 : decode cL_plans 143 = .ok (.iload 5, 2) := by decide +kernel
theorem dL_plans_145 : decode cL_plans 145 = .ok (.invokestatic 25, 3) := by decide +kernel
theorem dL_plans_148 : decode cL_plans 148 = .ok (.istore 11, 2) := by decide +kernel
theorem dL_plans_150 : decode cL_plans 150 = .ok (.aload_n 0, 1) := by decide +kernel
theorem dL_plans_151 : decode cL_plans 151 = .ok (.iload 10, 2) := by decide +kernel
theorem dL_plans_153 : decode cL_plans 153 = .ok (.iconst 3, 1) := by decide +kernel
theorem dL_plans_154 : decode cL_plans 154 = .ok (.invokevirtual 15, 3) := by decide +kernel
theorem dL_plans_157 : decode cL_plans 157 = .ok (.istore 12, 2) := by decide +kernel
theorem dL_plans_159 : decode cL_plans 159 = .ok (.iconst 0, 1) := by decide +kernel
theorem dL_plans_160 : decode cL_plans 160 = .ok (.istore 13, 2) := by decide +kernel
theorem dL_plans_162 : decode cL_plans 162 = .ok (.iconst 0, 1) := by decide +kernel
theorem dL_plans_163 : decode cL_plans 163 = .ok (.istore 14, 2) := by decide +kernel
theorem dL_plans_165 : decode cL_plans 165 = .ok (.iload 14, 2) := by decide +kernel
theorem dL_plans_167 : decode cL_plans 167 = .ok (.aload_n 0, 1) := by decide +kernel
theorem dL_plans_168 : decode cL_plans 168 = .ok (.iconst 2, 1) := by decide +kernel
theorem dL_plans_169 : decode cL_plans 169 = .ok (.invokevirtual 9, 3) := by decide +kernel
theorem dL_plans_172 : decode cL_plans 172 = .ok (.if_icmp .ge 80, 3) := by decide +kernel
theorem dL_plans_175 : decode cL_plans 175 = .ok (.aload_n 0, 1) := by decide +kernel
theorem dL_plans_176 : decode cL_plans 176 = .ok (.iload 14, 2) := by decide +kernel
theorem dL_plans_178 : decode cL_plans 178 = .ok (.iconst 3, 1) := by decide +kernel
theorem dL_plans_179 : decode cL_plans 179 = .ok (.invokevirtual 34, 3) := by decide +kernel
theorem dL_plans_182 : decode cL_plans 182 = .ok (.iload_n 1, 1) := by decide +kernel
theorem dL_plans_183 : decode cL_plans 183 = .ok (.if_icmp .eq 29, 3) := by decide +kernel
theorem dL_plans_186 : decode cL_plans 186 = .ok (.aload_n 0, 1) := by decide +kernel
theorem dL_plans_187 : decode cL_plans 187 = .ok (.iload 14, 2) := by decide +kernel
theorem dL_plans_189 : decode cL_plans 189 = .ok (.iconst 1, 1) := by decide +kernel
theorem dL_plans_190 : decode cL_plans 190 = .ok (.invokevirtual 34, 3) := by decide +kernel
theorem dL_plans_193 : decode cL_plans 193 = .ok (.ifCond .ne 23, 3) := by decide +kernel
theorem dL_plans_196 : decode cL_plans 196 = .ok (.iload 11, 2) := by decide +kernel
theorem dL_plans_198 : decode cL_plans 198 = .ok (.aload_n 0, 1) := by decide +kernel
theorem dL_plans_199 : decode cL_plans 199 = .ok (.iload 14, 2) := by decide +kernel
theorem dL_plans_201 : decode cL_plans 201 = .ok (.iconst 2, 1) := by decide +kernel
theorem dL_plans_202 : decode cL_plans 202 = .ok (.invokevirtual 34, 3) := by decide +kernel
theorem dL_plans_205 : decode cL_plans 205 = .ok (.ishr, 1) := by decide +kernel
theorem dL_plans_206 : decode cL_plans 206 = .ok (.iconst 1, 1) := by decide +kernel
theorem dL_plans_207 : decode cL_plans 207 = .ok (.iand, 1) := by decide +kernel
theorem dL_plans_208 : decode cL_plans 208 = .ok (.iconst 1, 1) := by decide +kernel
theorem dL_plans_209 : decode cL_plans 209 = .ok (.if_icmp .ne 7, 3) := by decide +kernel
theorem dL_plans_212 : decode cL_plans 212 = .ok (.iconst 1, 1) := by decide +kernel
theorem dL_plans_213 : decode cL_plans 213 = .ok (.goto 4, 3) := by decide +kernel
theorem dL_plans_216 : decode cL_plans 216 = .ok (.iconst 0, 1) := by decide +kernel
theorem dL_plans_217 : decode cL_plans 217 = .ok (.istore 15, 2) := by decide +kernel
theorem dL_plans_219 : decode cL_plans 219 = .ok (.iload 13, 2) := by decide +kernel
theorem dL_plans_221 : decode cL_plans 221 = .ok (.iload 15, 2) := by decide +kernel
theorem dL_plans_223 : decode cL_plans 223 = .ok (.ifCond .eq 19, 3) := by decide +kernel
theorem dL_plans_226 : decode cL_plans 226 = .ok (.aload_n 0, 1) := by decide +kernel
theorem dL_plans_227 : decode cL_plans 227 = .ok (.iload 14, 2) := by decide +kernel
theorem dL_plans_229 : decode cL_plans 229 = .ok (.iconst 0, 1) := by decide +kernel
theorem dL_plans_230 : decode cL_plans 230 = .ok (.invokevirtual 34, 3) := by decide +kernel
theorem dL_plans_233 : decode cL_plans 233 = .ok (.iload 12, 2) := by decide +kernel
theorem dL_plans_235 : decode cL_plans 235 = .ok (.if_icmp .ne 7, 3) := by decide +kernel
theorem dL_plans_238 : decode cL_plans 238 = .ok (.iconst 1, 1) := by decide +kernel
theorem dL_plans_239 : decode cL_plans 239 = .ok (.goto 4, 3) := by decide +kernel
theorem dL_plans_242 : decode cL_plans 242 = .ok (.iconst 0, 1) := by decide +kernel
theorem dL_plans_243 : decode cL_plans 243 = .ok (.iadd, 1) := by decide +kernel
theorem dL_plans_244 : decode cL_plans 244 = .ok (.istore 13, 2) := by decide +kernel
theorem dL_plans_246 : decode cL_plans 246 = .ok (.iinc 14 1, 3) := by decide +kernel
theorem dL_plans_249 : decode cL_plans 249 = .ok (.goto (-84), 3) := by decide +kernel
theorem dL_plans_252 : decode cL_plans 252 = .ok (.iload 11, 2) := by decide +kernel
theorem dL_plans_254 : decode cL_plans 254 = .ok (.aload_n 0, 1) := by decide +kernel
theorem dL_plans_255 : decode cL_plans 255 = .ok (.iload 10, 2) := by decide +kernel
theorem dL_plans_257 : decode cL_plans 257 = .ok (.iconst 0, 1) := by decide +kernel
theorem dL_plans_258 : decode cL_plans 258 = .ok (.invokevirtual 15, 3) := by decide +kernel
theorem dL_plans_261 : decode cL_plans 261 = .ok (.ishr, 1) := by decide +kernel
theorem dL_plans_262 : decode cL_plans 262 = .ok (.iconst 1, 1) := by decide +kernel
theorem dL_plans_263 : decode cL_plans 263 = .ok (.iand, 1) := by decide +kernel
theorem dL_plans_264 : decode cL_plans 264 = .ok (.iconst 1, 1) := by decide +kernel
theorem dL_plans_265 : decode cL_plans 265 = .ok (.if_icmp .eq 19, 3) := by decide +kernel
theorem dL_plans_268 : decode cL_plans 268 = .ok (.iload 11, 2) := by decide +kernel
theorem dL_plans_270 : decode cL_plans 270 = .ok (.aload_n 0, 1) := by decide +kernel
theorem dL_plans_271 : decode cL_plans 271 = .ok (.iload 10, 2) := by decide +kernel
theorem dL_plans_273 : decode cL_plans 273 = .ok (.iconst 1, 1) := by decide +kernel
theorem dL_plans_274 : decode cL_plans 274 = .ok (.invokevirtual 15, 3) := by decide +kernel
theorem dL_plans_277 : decode cL_plans 277 = .ok (.ishr, 1) := by decide +kernel
theorem dL_plans_278 : decode cL_plans 278 = .ok (.iconst 1, 1) := by decide +kernel
theorem dL_plans_279 : decode cL_plans 279 = .ok (.iand, 1) := by decide +kernel
theorem dL_plans_280 : decode cL_plans 280 = .ok (.iconst 1, 1) := by decide +kernel
theorem dL_plans_281 : decode cL_plans 281 = .ok (.if_icmp .ne 7, 3) := by decide +kernel
theorem dL_plans_284 : decode cL_plans 284 = .ok (.iconst 1, 1) := by decide +kernel
theorem dL_plans_285 : decode cL_plans 285 = .ok (.goto 4, 3) := by decide +kernel
theorem dL_plans_288 : decode cL_plans 288 = .ok (.iconst 0, 1) := by decide +kernel
theorem dL_plans_289 : decode cL_plans 289 = .ok (.istore 14, 2) := by decide +kernel
theorem dL_plans_291 : decode cL_plans 291 = .ok (.iload 12, 2) := by decide +kernel
theorem dL_plans_293 : decode cL_plans 293 = .ok (.ifCond .lt 49, 3) := by decide +kernel
theorem dL_plans_296 : decode cL_plans 296 = .ok (.aload_n 0, 1) := by decide +kernel
theorem dL_plans_297 : decode cL_plans 297 = .ok (.iload 10, 2) := by decide +kernel
theorem dL_plans_299 : decode cL_plans 299 = .ok (.iconst 5, 1) := by decide +kernel
theorem dL_plans_300 : decode cL_plans 300 = .ok (.invokevirtual 15, 3) := by decide +kernel
theorem dL_plans_303 : decode cL_plans 303 = .ok (.ifCond .ge 39, 3) := by decide +kernel
theorem dL_plans_306 : decode cL_plans 306 = .ok (.iload 5, 2) := by decide +kernel
theorem dL_plans_308 : decode cL_plans 308 = .ok (.iload 10, 2) := by decide +kernel
theorem dL_plans_310 : decode cL_plans 310 = .ok (.ishr, 1) := by decide +kernel
theorem dL_plans_311 : decode cL_plans 311 = .ok (.iconst 1, 1) := by decide +kernel
theorem dL_plans_312 : decode cL_plans 312 = .ok (.iand, 1) := by decide +kernel
theorem dL_plans_313 : decode cL_plans 313 = .ok (.iconst 1, 1) := by decide +kernel
theorem dL_plans_314 : decode cL_plans 314 = .ok (.if_icmp .eq 28, 3) := by decide +kernel
theorem dL_plans_317 : decode cL_plans 317 = .ok (.iload 14, 2) := by decide +kernel
theorem dL_plans_319 : decode cL_plans 319 = .ok (.ifCond .eq 23, 3) := by decide +kernel
theorem dL_plans_322 : decode cL_plans 322 = .ok (.iload 13, 2) := by decide +kernel
theorem dL_plans_324 : decode cL_plans 324 = .ok (.aload 8, 2) := by decide +kernel
theorem dL_plans_326 : decode cL_plans 326 = .ok (.iload 12, 2) := by decide +kernel
theorem dL_plans_328 : decode cL_plans 328 = .ok (.iaload, 1) := by decide +kernel
theorem dL_plans_329 : decode cL_plans 329 = .ok (.if_icmp .le 13, 3) := by decide +kernel
theorem dL_plans_332 : decode cL_plans 332 = .ok (.iload 11, 2) := by decide +kernel
theorem dL_plans_334 : decode cL_plans 334 = .ok (.iload_n 2, 1) := by decide +kernel
theorem dL_plans_335 : decode cL_plans 335 = .ok (.ishr, 1) := by decide +kernel
theorem dL_plans_336 : decode cL_plans 336 = .ok (.iconst 1, 1) := by decide +kernel
theorem dL_plans_337 : decode cL_plans 337 = .ok (.iand, 1) := by decide +kernel
theorem dL_plans_338 : decode cL_plans 338 = .ok (.iconst 1, 1) := by decide +kernel
theorem dL_plans_339 : decode cL_plans 339 = .ok (.if_icmp .ne 5, 3) := by decide +kernel
theorem dL_plans_342 : decode cL_plans 342 = .ok (.iconst 0, 1) := by decide +kernel
theorem dL_plans_343 : decode cL_plans 343 = .ok (.ireturn, 1) := by decide +kernel
theorem dL_plans_344 : decode cL_plans 344 = .ok (.aload 8, 2) := by decide +kernel
theorem dL_plans_346 : decode cL_plans 346 = .ok (.iload 12, 2) := by decide +kernel
theorem dL_plans_348 : decode cL_plans 348 = .ok (.dup2, 1) := by decide +kernel
theorem dL_plans_349 : decode cL_plans 349 = .ok (.iaload, 1) := by decide +kernel
theorem dL_plans_350 : decode cL_plans 350 = .ok (.iconst 1, 1) := by decide +kernel
theorem dL_plans_351 : decode cL_plans 351 = .ok (.iadd, 1) := by decide +kernel
theorem dL_plans_352 : decode cL_plans 352 = .ok (.iastore, 1) := by decide +kernel
theorem dL_plans_353 : decode cL_plans 353 = .ok (.iload 5, 2) := by decide +kernel
theorem dL_plans_355 : decode cL_plans 355 = .ok (.iconst 1, 1) := by decide +kernel
theorem dL_plans_356 : decode cL_plans 356 = .ok (.iload 10, 2) := by decide +kernel
theorem dL_plans_358 : decode cL_plans 358 = .ok (.ishl, 1) := by decide +kernel
theorem dL_plans_359 : decode cL_plans 359 = .ok (.ior, 1) := by decide +kernel
theorem dL_plans_360 : decode cL_plans 360 = .ok (.istore 5, 2) := by decide +kernel
theorem dL_plans_362 : decode cL_plans 362 = .ok (.iload 4, 2) := by decide +kernel
theorem dL_plans_364 : decode cL_plans 364 = .ok (.aload_n 0, 1) := by decide +kernel
theorem dL_plans_365 : decode cL_plans 365 = .ok (.iload 10, 2) := by decide +kernel
theorem dL_plans_367 : decode cL_plans 367 = .ok (.iconst 4, 1) := by decide +kernel
theorem dL_plans_368 : decode cL_plans 368 = .ok (.invokevirtual 15, 3) := by decide +kernel
theorem dL_plans_371 : decode cL_plans 371 = .ok (.iadd, 1) := by decide +kernel
theorem dL_plans_372 : decode cL_plans 372 = .ok (.istore 4, 2) := by decide +kernel
theorem dL_plans_374 : decode cL_plans 374 = .ok (.iinc 9 1, 3) := by decide +kernel
theorem dL_plans_377 : decode cL_plans 377 = .ok (.goto (-252), 3) := by decide +kernel
theorem dL_plans_380 : decode cL_plans 380 = .ok (.aload_n 0, 1) := by decide +kernel
theorem dL_plans_381 : decode cL_plans 381 = .ok (.iload 6, 2) := by decide +kernel
theorem dL_plans_383 : decode cL_plans 383 = .ok (.iload 5, 2) := by decide +kernel
theorem dL_plans_385 : decode cL_plans 385 = .ok (.invokestatic 25, 3) := by decide +kernel
theorem dL_plans_388 : decode cL_plans 388 = .ok (.iload_n 2, 1) := by decide +kernel
theorem dL_plans_389 : decode cL_plans 389 = .ok (.ishr, 1) := by decide +kernel
theorem dL_plans_390 : decode cL_plans 390 = .ok (.iconst 1, 1) := by decide +kernel
theorem dL_plans_391 : decode cL_plans 391 = .ok (.iand, 1) := by decide +kernel
theorem dL_plans_392 : decode cL_plans 392 = .ok (.iconst 1, 1) := by decide +kernel
theorem dL_plans_393 : decode cL_plans 393 = .ok (.if_icmp .ne 51, 3) := by decide +kernel
theorem dL_plans_396 : decode cL_plans 396 = .ok (.aload_n 0, 1) := by decide +kernel
theorem dL_plans_397 : decode cL_plans 397 = .ok (.iload_n 1, 1) := by decide +kernel
theorem dL_plans_398 : decode cL_plans 398 = .ok (.iconst 0, 1) := by decide +kernel
theorem dL_plans_399 : decode cL_plans 399 = .ok (.invokevirtual 19, 3) := by decide +kernel
theorem dL_plans_402 : decode cL_plans 402 = .ok (.iload 4, 2) := by decide +kernel
theorem dL_plans_404 : decode cL_plans 404 = .ok (.if_icmp .ne 40, 3) := by decide +kernel
theorem dL_plans_407 : decode cL_plans 407 = .ok (.aload_n 0, 1) := by decide +kernel
theorem dL_plans_408 : decode cL_plans 408 = .ok (.iload_n 1, 1) := by decide +kernel
theorem dL_plans_409 : decode cL_plans 409 = .ok (.iload_n 3, 1) := by decide +kernel
theorem dL_plans_410 : decode cL_plans 410 = .ok (.invokevirtual 31, 3) := by decide +kernel
theorem dL_plans_413 : decode cL_plans 413 = .ok (.bipush (-6), 2) := by decide +kernel
theorem dL_plans_415 : decode cL_plans 415 = .ok (.if_icmp .ne 29, 3) := by decide +kernel
theorem dL_plans_418 : decode cL_plans 418 = .ok (.aload_n 0, 1) := by decide +kernel
theorem dL_plans_419 : decode cL_plans 419 = .ok (.iload_n 1, 1) := by decide +kernel
theorem dL_plans_420 : decode cL_plans 420 = .ok (.iconst (-1), 1) := by decide +kernel
theorem dL_plans_421 : decode cL_plans 421 = .ok (.invokevirtual 31, 3) := by decide +kernel
theorem dL_plans_424 : decode cL_plans 424 = .ok (.bipush (-2), 2) := by decide +kernel
theorem dL_plans_426 : decode cL_plans 426 = .ok (.if_icmp .ne 18, 3) := by decide +kernel
theorem dL_plans_429 : decode cL_plans 429 = .ok (.aload_n 0, 1) := by decide +kernel
theorem dL_plans_430 : decode cL_plans 430 = .ok (.iload_n 1, 1) := by decide +kernel
theorem dL_plans_431 : decode cL_plans 431 = .ok (.iconst 2, 1) := by decide +kernel
theorem dL_plans_432 : decode cL_plans 432 = .ok (.invokevirtual 19, 3) := by decide +kernel
theorem dL_plans_435 : decode cL_plans 435 = .ok (.bipush (-2), 2) := by decide +kernel
theorem dL_plans_437 : decode cL_plans 437 = .ok (.if_icmp .ne 7, 3) := by decide +kernel
theorem dL_plans_440 : decode cL_plans 440 = .ok (.iconst 1, 1) := by decide +kernel
theorem dL_plans_441 : decode cL_plans 441 = .ok (.goto 4, 3) := by decide +kernel
theorem dL_plans_444 : decode cL_plans 444 = .ok (.iconst 0, 1) := by decide +kernel
