theorem dL_plans_445 : decode cL_plans 445 = .ok (.ireturn, 1) := by decide +kernel
theorem dL_ways_0 : decode cL_ways 0 = .ok (.aload_n 0, 1) := by decide +kernel
theorem dL_ways_1 : decode cL_ways 1 = .ok (.iload_n 1, 1) := by decide +kernel
theorem dL_ways_2 : decode cL_ways 2 = .ok (.iconst 2, 1) := by decide +kernel
theorem dL_ways_3 : decode cL_ways 3 = .ok (.invokevirtual 22, 3) := by decide +kernel
theorem dL_ways_6 : decode cL_ways 6 = .ok (.istore_n 2, 1) := by decide +kernel
theorem dL_ways_7 : decode cL_ways 7 = .ok (.aload_n 0, 1) := by decide +kernel
theorem dL_ways_8 : decode cL_ways 8 = .ok (.iload_n 1, 1) := by decide +kernel
theorem dL_ways_9 : decode cL_ways 9 = .ok (.invokevirtual 37, 3) := by decide +kernel
theorem dL_ways_12 : decode cL_ways 12 = .ok (.istore_n 3, 1) := by decide +kernel
theorem dL_ways_13 : decode cL_ways 13 = .ok (.iload_n 3, 1) := by decide +kernel
theorem dL_ways_14 : decode cL_ways 14 = .ok (.aload_n 0, 1) := by decide +kernel
theorem dL_ways_15 : decode cL_ways 15 = .ok (.aload_n 0, 1) := by decide +kernel
theorem dL_ways_16 : decode cL_ways 16 = .ok (.iload_n 1, 1) := by decide +kernel
theorem dL_ways_17 : decode cL_ways 17 = .ok (.iconst 1, 1) := by decide +kernel
theorem dL_ways_18 : decode cL_ways 18 = .ok (.invokevirtual 22, 3) := by decide +kernel
theorem dL_ways_21 : decode cL_ways 21 = .ok (.iconst 0, 1) := by decide +kernel
theorem dL_ways_22 : decode cL_ways 22 = .ok (.invokestatic 25, 3) := by decide +kernel
theorem dL_ways_25 : decode cL_ways 25 = .ok (.if_icmp .ne 31, 3) := by decide +kernel
theorem dL_ways_28 : decode cL_ways 28 = .ok (.aload_n 0, 1) := by decide +kernel
theorem dL_ways_29 : decode cL_ways 29 = .ok (.iload_n 1, 1) := by decide +kernel
theorem dL_ways_30 : decode cL_ways 30 = .ok (.aload_n 0, 1) := by decide +kernel
theorem dL_ways_31 : decode cL_ways 31 = .ok (.iload_n 1, 1) := by decide +kernel
theorem dL_ways_32 : decode cL_ways 32 = .ok (.iconst 1, 1) := by decide +kernel
theorem dL_ways_33 : decode cL_ways 33 = .ok (.invokevirtual 22, 3) := by decide +kernel
theorem dL_ways_36 : decode cL_ways 36 = .ok (.invokevirtual 39, 3) := by decide +kernel
theorem dL_ways_39 : decode cL_ways 39 = .ok (.ifCond .ne 17, 3) := by decide +kernel
theorem dL_ways_42 : decode cL_ways 42 = .ok (.aload_n 0, 1) := by decide +kernel
theorem dL_ways_43 : decode cL_ways 43 = .ok (.iload_n 1, 1) := by decide +kernel
theorem dL_ways_44 : decode cL_ways 44 = .ok (.aload_n 0, 1) := by decide +kernel
theorem dL_ways_45 : decode cL_ways 45 = .ok (.iconst 0, 1) := by decide +kernel
theorem dL_ways_46 : decode cL_ways 46 = .ok (.invokevirtual 9, 3) := by decide +kernel
theorem dL_ways_49 : decode cL_ways 49 = .ok (.invokevirtual 39, 3) := by decide +kernel
theorem dL_ways_52 : decode cL_ways 52 = .ok (.iconst (-1), 1) := by decide +kernel
theorem dL_ways_53 : decode cL_ways 53 = .ok (.if_icmp .eq 5, 3) := by decide +kernel
theorem dL_ways_56 : decode cL_ways 56 = .ok (.iconst 0, 1) := by decide +kernel
theorem dL_ways_57 : decode cL_ways 57 = .ok (.ireturn, 1) := by decide +kernel
theorem dL_ways_58 : decode cL_ways 58 = .ok (.iconst 0, 1) := by decide +kernel
theorem dL_ways_59 : decode cL_ways 59 = .ok (.istore 4, 2) := by decide +kernel
theorem dL_ways_61 : decode cL_ways 61 = .ok (.iload 4, 2) := by decide +kernel
theorem dL_ways_63 : decode cL_ways 63 = .ok (.aload_n 0, 1) := by decide +kernel
theorem dL_ways_64 : decode cL_ways 64 = .ok (.iconst 0, 1) := by decide +kernel
theorem dL_ways_65 : decode cL_ways 65 = .ok (.invokevirtual 9, 3) := by decide +kernel
theorem dL_ways_68 : decode cL_ways 68 = .ok (.if_icmp .ge 246, 3) := by decide +kernel
theorem dL_ways_71 : decode cL_ways 71 = .ok (.aload_n 0, 1) := by decide +kernel
theorem dL_ways_72 : decode cL_ways 72 = .ok (.iload_n 1, 1) := by decide +kernel
theorem dL_ways_73 : decode cL_ways 73 = .ok (.iload 4, 2) := by decide +kernel
theorem dL_ways_75 : decode cL_ways 75 = .ok (.invokevirtual 39, 3) := by decide +kernel
theorem dL_ways_78 : decode cL_ways 78 = .ok (.istore 5, 2) := by decide +kernel
theorem dL_ways_80 : decode cL_ways 80 = .ok (.iload 5, 2) := by decide +kernel
theorem dL_ways_82 : decode cL_ways 82 = .ok (.ifCond .ne 7, 3) := by decide +kernel
theorem dL_ways_85 : decode cL_ways 85 = .ok (.iconst 1, 1) := by decide +kernel
theorem dL_ways_86 : decode cL_ways 86 = .ok (.goto 4, 3) := by decide +kernel
theorem dL_ways_89 : decode cL_ways 89 = .ok (.iconst 0, 1) := by decide +kernel
theorem dL_ways_90 : decode cL_ways 90 = .ok (.istore 6, 2) := by decide +kernel
theorem dL_ways_92 : decode cL_ways 92 = .ok (.iload 5, 2) := by decide +kernel
theorem dL_ways_94 : decode cL_ways 94 = .ok (.ifCond .ge 7, 3) := by decide +kernel
theorem dL_ways_97 : decode cL_ways 97 = .ok (.iconst 1, 1) := by decide +kernel
theorem dL_ways_98 : decode cL_ways 98 = .ok (.goto 4, 3) := by decide +kernel
theorem dL_ways_101 : decode cL_ways 101 = .ok (.iconst 0, 1) := by decide +kernel
theorem dL_ways_102 : decode cL_ways 102 = .ok (.iload_n 3, 1) := by decide +kernel
theorem dL_ways_103 : decode cL_ways 103 = .ok (.iload 4, 2) := by decide +kernel
theorem dL_ways_105 : decode cL_ways 105 = .ok (.ishr, 1) := by decide +kernel
theorem dL_ways_106 : decode cL_ways 106 = .ok (.iconst 1, 1) := by decide +kernel
theorem dL_ways_107 : decode cL_ways 107 = .ok (.iand, 1) := by decide +kernel
theorem dL_ways_108 : decode cL_ways 108 = .ok (.ifCond .ne 7, 3) := by decide +kernel
theorem dL_ways_111 : decode cL_ways 111 = .ok (.iconst 1, 1) := by decide +kernel
theorem dL_ways_112 : decode cL_ways 112 = .ok (.goto 4, 3) := by decide +kernel
theorem dL_ways_115 : decode cL_ways 115 = .ok (.iconst 0, 1) := by decide +kernel
theorem dL_ways_116 : decode cL_ways 116 = .ok (.if_icmp .ne 15, 3) := by decide +kernel
theorem dL_ways_119 : decode cL_ways 119 = .ok (.iload 5, 2) := by decide +kernel
theorem dL_ways_121 : decode cL_ways 121 = .ok (.ifCond .ge 12, 3) := by decide +kernel
theorem dL_ways_124 : decode cL_ways 124 = .ok (.iload 5, 2) := by decide +kernel
theorem dL_ways_126 : decode cL_ways 126 = .ok (.bipush (-6), 2) := by decide +kernel
theorem dL_ways_128 : decode cL_ways 128 = .ok (.if_icmp .eq 5, 3) := by decide +kernel
theorem dL_ways_131 : decode cL_ways 131 = .ok (.iconst 0, 1) := by decide +kernel
theorem dL_ways_132 : decode cL_ways 132 = .ok (.ireturn, 1) := by decide +kernel
theorem dL_ways_133 : decode cL_ways 133 = .ok (.iconst 0, 1) := by decide +kernel
theorem dL_ways_134 : decode cL_ways 134 = .ok (.istore 7, 2) := by decide +kernel
theorem dL_ways_136 : decode cL_ways 136 = .ok (.iload 7, 2) := by decide +kernel
theorem dL_ways_138 : decode cL_ways 138 = .ok (.aload_n 0, 1) := by decide +kernel
theorem dL_ways_139 : decode cL_ways 139 = .ok (.iconst 1, 1) := by decide +kernel
theorem dL_ways_140 : decode cL_ways 140 = .ok (.invokevirtual 9, 3) := by decide +kernel
theorem dL_ways_143 : decode cL_ways 143 = .ok (.if_icmp .ge 153, 3) := by decide +kernel
theorem dL_ways_146 : decode cL_ways 146 = .ok (.iload 5, 2) := by decide +kernel
theorem dL_ways_148 : decode cL_ways 148 = .ok (.ifCond .lt 148, 3) := by decide +kernel
theorem dL_ways_151 : decode cL_ways 151 = .ok (.aload_n 0, 1) := by decide +kernel
theorem dL_ways_152 : decode cL_ways 152 = .ok (.iload 7, 2) := by decide +kernel
theorem dL_ways_154 : decode cL_ways 154 = .ok (.iconst 0, 1) := by decide +kernel
theorem dL_ways_155 : decode cL_ways 155 = .ok (.invokevirtual 15, 3) := by decide +kernel
theorem dL_ways_158 : decode cL_ways 158 = .ok (.iload 4, 2) := by decide +kernel
theorem dL_ways_160 : decode cL_ways 160 = .ok (.if_icmp .ne 13, 3) := by decide +kernel
theorem dL_ways_163 : decode cL_ways 163 = .ok (.aload_n 0, 1) := by decide +kernel
theorem dL_ways_164 : decode cL_ways 164 = .ok (.iload 7, 2) := by decide +kernel
theorem dL_ways_166 : decode cL_ways 166 = .ok (.iconst 1, 1) := by decide +kernel
theorem dL_ways_167 : decode cL_ways 167 = .ok (.invokevirtual 15, 3) := by decide +kernel
theorem dL_ways_170 : decode cL_ways 170 = .ok (.goto 26, 3) := by decide +kernel
theorem dL_ways_173 : decode cL_ways 173 = .ok (.aload_n 0, 1) := by decide +kernel
theorem dL_ways_174 : decode cL_ways 174 = .ok (.iload 7, 2) := by decide +kernel
theorem dL_ways_176 : decode cL_ways 176 = .ok (.iconst 1, 1) := by decide +kernel
theorem dL_ways_177 : decode cL_ways 177 = .ok (.invokevirtual 15, 3) := by decide +kernel
theorem dL_ways_180 : decode cL_ways 180 = .ok (.iload 4, 2) := by decide +kernel
theorem dL_ways_182 : decode cL_ways 182 = .ok (.if_icmp .ne 13, 3) := by decide +kernel
theorem dL_ways_185 : decode cL_ways 185 = .ok (.aload_n 0, 1) := by decide +kernel
theorem dL_ways_186 : decode cL_ways 186 = .ok (.iload 7, 2) := by decide +kernel
theorem dL_ways_188 : decode cL_ways 188 = .ok (.iconst 0, 1) := by decide +kernel
theorem dL_ways_189 : decode cL_ways 189 = .ok (.invokevirtual 15, 3) := by decide +kernel
theorem dL_ways_192 : decode cL_ways 192 = .ok (.goto 4, 3) := by decide +kernel
theorem dL_ways_195 : decode cL_ways 195 = .ok (.iconst (-1), 1) := by decide +kernel
theorem dL_ways_196 : decode cL_ways 196 = .ok (.istore 8, 2) := by decide +kernel
theorem dL_ways_198 : decode cL_ways 198 = .ok (.iload 8, 2) := by decide +kernel
theorem dL_ways_200 : decode cL_ways 200 = .ok (.ifCond .lt 90, 3) := by decide +kernel
theorem dL_ways_203 : decode cL_ways 203 = .ok (.aload_n 0, 1) := by decide +kernel
theorem dL_ways_204 : decode cL_ways 204 = .ok (.iload 7, 2) := by decide +kernel
theorem dL_ways_206 : decode cL_ways 206 = .ok (.iconst 5, 1) := by decide +kernel
theorem dL_ways_207 : decode cL_ways 207 = .ok (.invokevirtual 15, 3) := by decide +kernel
theorem dL_ways_210 : decode cL_ways 210 = .ok (.ifCond .lt 80, 3) := by decide +kernel
theorem dL_ways_213 : decode cL_ways 213 = .ok (.iload_n 2, 1) := by decide +kernel
theorem dL_ways_214 : decode cL_ways 214 = .ok (.aload_n 0, 1) := by decide +kernel
theorem dL_ways_215 : decode cL_ways 215 = .ok (.iload_n 1, 1) := by decide +kernel
theorem dL_ways_216 : decode cL_ways 216 = .ok (.iload 8, 2) := by decide +kernel
theorem dL_ways_218 : decode cL_ways 218 = .ok (.invokevirtual 39, 3) := by decide +kernel
theorem dL_ways_221 : decode cL_ways 221 = .ok (.iadd, 1) := by decide +kernel
theorem dL_ways_222 : decode cL_ways 222 = .ok (.istore 9, 2) := by decide +kernel
theorem dL_ways_224 : decode cL_ways 224 = .ok (.iload 9, 2) := by decide +kernel
theorem dL_ways_226 : decode cL_ways 226 = .ok (.aload_n 0, 1) := by decide +kernel
theorem dL_ways_227 : decode cL_ways 227 = .ok (.iload 7, 2) := by decide +kernel
theorem dL_ways_229 : decode cL_ways 229 = .ok (.iconst 5, 1) := by decide +kernel
theorem dL_ways_230 : decode cL_ways 230 = .ok (.invokevirtual 15, 3) := by decide +kernel
theorem dL_ways_233 : decode cL_ways 233 = .ok (.if_icmp .ge 13, 3) := by decide +kernel
theorem dL_ways_236 : decode cL_ways 236 = .ok (.aload_n 0, 1) := by decide +kernel
theorem dL_ways_237 : decode cL_ways 237 = .ok (.iload 7, 2) := by decide +kernel
theorem dL_ways_239 : decode cL_ways 239 = .ok (.iconst 5, 1) := by decide +kernel
theorem dL_ways_240 : decode cL_ways 240 = .ok (.invokevirtual 15, 3) := by decide +kernel
theorem dL_ways_243 : decode cL_ways 243 = .ok (.goto 5, 3) := by decide +kernel
theorem dL_ways_246 : decode cL_ways 246 = .ok (.iload 9, 2) := by decide +kernel
theorem dL_ways_248 : decode cL_ways 248 = .ok (.aload_n 0, 1) := by decide +kernel
theorem dL_ways_249 : decode cL_ways 249 = .ok (.iload 7, 2) := by decide +kernel
theorem dL_ways_251 : decode cL_ways 251 = .ok (.iconst 2, 1) := by decide +kernel
theorem dL_ways_252 : decode cL_ways 252 = .ok (.invokevirtual 15, 3) := by decide +kernel
theorem dL_ways_255 : decode cL_ways 255 = .ok (.iadd, 1) := by decide +kernel
theorem dL_ways_256 : decode cL_ways 256 = .ok (.istore 10, 2) := by decide +kernel
theorem dL_ways_258 : decode cL_ways 258 = .ok (.iload 6, 2) := by decide +kernel
theorem dL_ways_260 : decode cL_ways 260 = .ok (.ifCond .ne 12, 3) := by decide +kernel
theorem dL_ways_263 : decode cL_ways 263 = .ok (.iload 10, 2) := by decide +kernel
theorem dL_ways_265 : decode cL_ways 265 = .ok (.iload_n 2, 1) := by decide +kernel
theorem dL_ways_266 : decode cL_ways 266 = .ok (.iload 5, 2) := by decide +kernel
theorem dL_ways_268 : decode cL_ways 268 = .ok (.iadd, 1) := by decide +kernel
theorem dL_ways_269 : decode cL_ways 269 = .ok (.if_icmp .ne 7, 3) := by decide +kernel
theorem dL_ways_272 : decode cL_ways 272 = .ok (.iconst 1, 1) := by decide +kernel
theorem dL_ways_273 : decode cL_ways 273 = .ok (.goto 4, 3) := by decide +kernel
theorem dL_ways_276 : decode cL_ways 276 = .ok (.iconst 0, 1) := by decide +kernel
theorem dL_ways_277 : decode cL_ways 277 = .ok (.istore 6, 2) := by decide +kernel
theorem dL_ways_279 : decode cL_ways 279 = .ok (.iload 10, 2) := by decide +kernel
theorem dL_ways_281 : decode cL_ways 281 = .ok (.iload_n 2, 1) := by decide +kernel
theorem dL_ways_282 : decode cL_ways 282 = .ok (.iload 5, 2) := by decide +kernel
theorem dL_ways_284 : decode cL_ways 284 = .ok (.iadd, 1) := by decide +kernel
theorem dL_ways_285 : decode cL_ways 285 = .ok (.if_icmp .ge 5, 3) := by decide +kernel
theorem dL_ways_288 : decode cL_ways 288 = .ok (.iconst 0, 1) := by decide +kernel
theorem dL_ways_289 : decode cL_ways 289 = .ok (.ireturn, 1) := by decide +kernel
theorem dL_ways_290 : decode cL_ways 290 = .ok (.iinc 7 1, 3) := by decide +kernel
theorem dL_ways_293 : decode cL_ways 293 = .ok (.goto (-157), 3) := by decide +kernel
theorem dL_ways_296 : decode cL_ways 296 = .ok (.iload 5, 2) := by decide +kernel
theorem dL_ways_298 : decode cL_ways 298 = .ok (.ifCond .lt 10, 3) := by decide +kernel
theorem dL_ways_301 : decode cL_ways 301 = .ok (.iload 6, 2) := by decide +kernel
theorem dL_ways_303 : decode cL_ways 303 = .ok (.ifCond .ne 5, 3) := by decide +kernel
theorem dL_ways_306 : decode cL_ways 306 = .ok (.iconst 0, 1) := by decide +kernel
theorem dL_ways_307 : decode cL_ways 307 = .ok (.ireturn, 1) := by decide +kernel
theorem dL_ways_308 : decode cL_ways 308 = .ok (.iinc 4 1, 3) := by decide +kernel
theorem dL_ways_311 : decode cL_ways 311 = .ok (.goto (-250), 3) := by decide +kernel
theorem dL_ways_314 : decode cL_ways 314 = .ok (.iconst 1, 1) := by decide +kernel
theorem dL_ways_315 : decode cL_ways 315 = .ok (.ireturn, 1) := by decide +kernel
theorem dL_agrees_0 : decode cL_agrees 0 = .ok (.iconst 0, 1) := by decide +kernel
theorem dL_agrees_1 : decode cL_agrees 1 = .ok (.istore_n 1, 1) := by decide +kernel
theorem dL_agrees_2 : decode cL_agrees 2 = .ok (.iconst 0, 1) := by decide +kernel
theorem dL_agrees_3 : decode cL_agrees 3 = .ok (.istore_n 2, 1) := by decide +kernel
theorem dL_agrees_4 : decode cL_agrees 4 = .ok (.iconst 0, 1) := by decide +kernel
theorem dL_agrees_5 : decode cL_agrees 5 = .ok (.istore_n 3, 1) := by decide +kernel
theorem dL_agrees_6 : decode cL_agrees 6 = .ok (.bipush (-6), 2) := by decide +kernel
theorem dL_agrees_8 : decode cL_agrees 8 = .ok (.istore 4, 2) := by decide +kernel
theorem dL_agrees_10 : decode cL_agrees 10 = .ok (.iconst 0, 1) := by decide +kernel
theorem dL_agrees_11 : decode cL_agrees 11 = .ok (.istore 5, 2) := by decide +kernel
theorem dL_agrees_13 : decode cL_agrees 13 = .ok (.iconst 0, 1) := by decide +kernel
theorem dL_agrees_14 : decode cL_agrees 14 = .ok (.istore 6, 2) := by decide +kernel
theorem dL_agrees_16 : decode cL_agrees 16 = .ok (.iload 6, 2) := by decide +kernel
theorem dL_agrees_18 : decode cL_agrees 18 = .ok (.aload_n 0, 1) := by decide +kernel
theorem dL_agrees_19 : decode cL_agrees 19 = .ok (.iconst 3, 1) := by decide +kernel
theorem dL_agrees_20 : decode cL_agrees 20 = .ok (.invokevirtual 9, 3) := by decide +kernel
theorem dL_agrees_23 : decode cL_agrees 23 = .ok (.if_icmp .ge 338, 3) := by decide +kernel
theorem dL_agrees_26 : decode cL_agrees 26 = .ok (.aload_n 0, 1) := by decide +kernel
theorem dL_agrees_27 : decode cL_agrees 27 = .ok (.iload 6, 2) := by decide +kernel
theorem dL_agrees_29 : decode cL_agrees 29 = .ok (.iconst 5, 1) := by decide +kernel
theorem dL_agrees_30 : decode cL_agrees 30 = .ok (.invokevirtual 22, 3) := by decide +kernel
theorem dL_agrees_33 : decode cL_agrees 33 = .ok (.istore 7, 2) := by decide +kernel
theorem dL_agrees_35 : decode cL_agrees 35 = .ok (.iconst 0, 1) := by decide +kernel
theorem dL_agrees_36 : decode cL_agrees 36 = .ok (.istore 8, 2) := by decide +kernel
theorem dL_agrees_38 : decode cL_agrees 38 = .ok (.iconst 0, 1) := by decide +kernel
theorem dL_agrees_39 : decode cL_agrees 39 = .ok (.istore 9, 2) := by decide +kernel
theorem dL_agrees_41 : decode cL_agrees 41 = .ok (.iload 9, 2) := by decide +kernel
theorem dL_agrees_43 : decode cL_agrees 43 = .ok (.aload_n 0, 1) := by decide +kernel
theorem dL_agrees_44 : decode cL_agrees 44 = .ok (.iconst 2, 1) := by decide +kernel
theorem dL_agrees_45 : decode cL_agrees 45 = .ok (.invokevirtual 9, 3) := by decide +kernel
theorem dL_agrees_48 : decode cL_agrees 48 = .ok (.if_icmp .ge 31, 3) := by decide +kernel
theorem dL_agrees_51 : decode cL_agrees 51 = .ok (.iload 8, 2) := by decide +kernel
theorem dL_agrees_53 : decode cL_agrees 53 = .ok (.aload_n 0, 1) := by decide +kernel
theorem dL_agrees_54 : decode cL_agrees 54 = .ok (.iload 9, 2) := by decide +kernel
theorem dL_agrees_56 : decode cL_agrees 56 = .ok (.iconst 3, 1) := by decide +kernel
theorem dL_agrees_57 : decode cL_agrees 57 = .ok (.invokevirtual 34, 3) := by decide +kernel
theorem dL_agrees_60 : decode cL_agrees 60 = .ok (.iload 6, 2) := by decide +kernel
theorem dL_agrees_62 : decode cL_agrees 62 = .ok (.if_icmp .ne 7, 3) := by decide +kernel
theorem dL_agrees_65 : decode cL_agrees 65 = .ok (.iconst 1, 1) := by decide +kernel
theorem dL_agrees_66 : decode cL_agrees 66 = .ok (.goto 4, 3) := by decide +kernel
theorem dL_agrees_69 : decode cL_agrees 69 = .ok (.iconst 0, 1) := by decide +kernel
theorem dL_agrees_70 : decode cL_agrees 70 = .ok (.iadd, 1) := by decide +kernel
theorem dL_agrees_71 : decode cL_agrees 71 = .ok (.istore 8, 2) := by decide +kernel
theorem dL_agrees_73 : decode cL_agrees 73 = .ok (.iinc 9 1, 3) := by decide +kernel
theorem dL_agrees_76 : decode cL_agrees 76 = .ok (.goto (-35), 3) := by decide +kernel
theorem dL_agrees_79 : decode cL_agrees 79 = .ok (.iload_n 1, 1) := by decide +kernel
theorem dL_agrees_80 : decode cL_agrees 80 = .ok (.iload 7, 2) := by decide +kernel
theorem dL_agrees_82 : decode cL_agrees 82 = .ok (.iconst 1, 1) := by decide +kernel
theorem dL_agrees_83 : decode cL_agrees 83 = .ok (.if_icmp .ne 13, 3) := by decide +kernel
theorem dL_agrees_86 : decode cL_agrees 86 = .ok (.aload_n 0, 1) := by decide +kernel
theorem dL_agrees_87 : decode cL_agrees 87 = .ok (.iload 6, 2) := by decide +kernel
theorem dL_agrees_89 : decode cL_agrees 89 = .ok (.iconst 0, 1) := by decide +kernel
theorem dL_agrees_90 : decode cL_agrees 90 = .ok (.invokevirtual 22, 3) := by decide +kernel
theorem dL_agrees_93 : decode cL_agrees 93 = .ok (.goto 4, 3) := by decide +kernel
theorem dL_agrees_96 : decode cL_agrees 96 = .ok (.iconst 0, 1) := by decide +kernel
theorem dL_agrees_97 : decode cL_agrees 97 = .ok (.iadd, 1) := by decide +kernel
theorem dL_agrees_98 : decode cL_agrees 98 = .ok (.istore_n 1, 1) := by decide +kernel
theorem dL_agrees_99 : decode cL_agrees 99 = .ok (.iload_n 2, 1) := by decide +kernel
theorem dL_agrees_100 : decode cL_agrees 100 = .ok (.iload 7, 2) := by decide +kernel
theorem dL_agrees_102 : decode cL_agrees 102 = .ok (.ifCond .ne 13, 3) := by decide +kernel
theorem dL_agrees_105 : decode cL_agrees 105 = .ok (.aload_n 0, 1) := by decide +kernel
theorem dL_agrees_106 : decode cL_agrees 106 = .ok (.iload 6, 2) := by decide +kernel
theorem dL_agrees_108 : decode cL_agrees 108 = .ok (.iconst 0, 1) := by decide +kernel
theorem dL_agrees_109 : decode cL_agrees 109 = .ok (.invokevirtual 22, 3) := by decide +kernel
theorem dL_agrees_112 : decode cL_agrees 112 = .ok (.goto 4, 3) := by decide +kernel
theorem dL_agrees_115 : decode cL_agrees 115 = .ok (.iconst 0, 1) := by decide +kernel
theorem dL_agrees_116 : decode cL_agrees 116 = .ok (.iadd, 1) := by decide +kernel
theorem dL_agrees_117 : decode cL_agrees 117 = .ok (.istore_n 2, 1) := by decide +kernel
theorem dL_agrees_118 : decode cL_agrees 118 = .ok (.iload_n 3, 1) := by decide +kernel
theorem dL_agrees_119 : decode cL_agrees 119 = .ok (.iload 7, 2) := by decide +kernel
theorem dL_agrees_121 : decode cL_agrees 121 = .ok (.iconst 2, 1) := by decide +kernel
theorem dL_agrees_122 : decode cL_agrees 122 = .ok (.if_icmp .ne 7, 3) := by decide +kernel
theorem dL_agrees_125 : decode cL_agrees 125 = .ok (.iconst 0, 1) := by decide +kernel
theorem dL_agrees_126 : decode cL_agrees 126 = .ok (.goto 10, 3) := by decide +kernel
theorem dL_agrees_129 : decode cL_agrees 129 = .ok (.aload_n 0, 1) := by decide +kernel
theorem dL_agrees_130 : decode cL_agrees 130 = .ok (.iload 6, 2) := by decide +kernel
theorem dL_agrees_132 : decode cL_agrees 132 = .ok (.iconst 4, 1) := by decide +kernel
theorem dL_agrees_133 : decode cL_agrees 133 = .ok (.invokevirtual 22, 3) := by decide +kernel
theorem dL_agrees_136 : decode cL_agrees 136 = .ok (.iadd, 1) := by decide +kernel
theorem dL_agrees_137 : decode cL_agrees 137 = .ok (.istore_n 3, 1) := by decide +kernel
theorem dL_agrees_138 : decode cL_agrees 138 = .ok (.iload 7, 2) := by decide +kernel
theorem dL_agrees_140 : decode cL_agrees 140 = .ok (.iconst 1, 1) := by decide +kernel
theorem dL_agrees_141 : decode cL_agrees 141 = .ok (.if_icmp .ne 25, 3) := by decide +kernel
theorem dL_agrees_144 : decode cL_agrees 144 = .ok (.aload_n 0, 1) := by decide +kernel
theorem dL_agrees_145 : decode cL_agrees 145 = .ok (.iload 6, 2) := by decide +kernel
theorem dL_agrees_147 : decode cL_agrees 147 = .ok (.iconst 2, 1) := by decide +kernel
theorem dL_agrees_148 : decode cL_agrees 148 = .ok (.invokevirtual 22, 3) := by decide +kernel
theorem dL_agrees_151 : decode cL_agrees 151 = .ok (.iload 4, 2) := by decide +kernel
theorem dL_agrees_153 : decode cL_agrees 153 = .ok (.if_icmp .le 13, 3) := by decide +kernel
theorem dL_agrees_156 : decode cL_agrees 156 = .ok (.aload_n 0, 1) := by decide +kernel
theorem dL_agrees_157 : decode cL_agrees 157 = .ok (.iload 6, 2) := by decide +kernel
theorem dL_agrees_159 : decode cL_agrees 159 = .ok (.iconst 2, 1) := by decide +kernel
theorem dL_agrees_160 : decode cL_agrees 160 = .ok (.invokevirtual 22, 3) := by decide +kernel
theorem dL_agrees_163 : decode cL_agrees 163 = .ok (.goto 5, 3) := by decide +kernel
theorem dL_agrees_166 : decode cL_agrees 166 = .ok (.iload 4, 2) := by decide +kernel
theorem dL_agrees_168 : decode cL_agrees 168 = .ok (.istore 4, 2) := by decide +kernel
theorem dL_agrees_170 : decode cL_agrees 170 = .ok (.aload_n 0, 1) := by decide +kernel
theorem dL_agrees_171 : decode cL_agrees 171 = .ok (.iload 6, 2) := by decide +kernel
theorem dL_agrees_173 : decode cL_agrees 173 = .ok (.iconst 3, 1) := by decide +kernel
theorem dL_agrees_174 : decode cL_agrees 174 = .ok (.invokevirtual 22, 3) := by decide +kernel
theorem dL_agrees_177 : decode cL_agrees 177 = .ok (.iload 8, 2) := by decide +kernel
theorem dL_agrees_179 : decode cL_agrees 179 = .ok (.if_icmp .ne 78, 3) := by decide +kernel
theorem dL_agrees_182 : decode cL_agrees 182 = .ok (.iload 7, 2) := by decide +kernel
theorem dL_agrees_184 : decode cL_agrees 184 = .ok (.iconst 2, 1) := by decide +kernel
theorem dL_agrees_185 : decode cL_agrees 185 = .ok (.if_icmp .ne 7, 3) := by decide +kernel
theorem dL_agrees_188 : decode cL_agrees 188 = .ok (.iconst 1, 1) := by decide +kernel
theorem dL_agrees_189 : decode cL_agrees 189 = .ok (.goto 4, 3) := by decide +kernel
theorem dL_agrees_192 : decode cL_agrees 192 = .ok (.iconst 0, 1) := by decide +kernel
theorem dL_agrees_193 : decode cL_agrees 193 = .ok (.aload_n 0, 1) := by decide +kernel
theorem dL_agrees_194 : decode cL_agrees 194 = .ok (.iload 6, 2) := by decide +kernel
theorem dL_agrees_196 : decode cL_agrees 196 = .ok (.iconst 0, 1) := by decide +kernel
theorem dL_agrees_197 : decode cL_agrees 197 = .ok (.invokevirtual 22, 3) := by decide +kernel
theorem dL_agrees_200 : decode cL_agrees 200 = .ok (.ifCond .ne 7, 3) := by decide +kernel
theorem dL_agrees_203 : decode cL_agrees 203 = .ok (.iconst 1, 1) := by decide +kernel
theorem dL_agrees_204 : decode cL_agrees 204 = .ok (.goto 4, 3) := by decide +kernel
theorem dL_agrees_207 : decode cL_agrees 207 = .ok (.iconst 0, 1) := by decide +kernel
theorem dL_agrees_208 : decode cL_agrees 208 = .ok (.if_icmp .ne 49, 3) := by decide +kernel
theorem dL_agrees_211 : decode cL_agrees 211 = .ok (.iload 7, 2) := by decide +kernel
theorem dL_agrees_213 : decode cL_agrees 213 = .ok (.iconst 2, 1) := by decide +kernel
theorem dL_agrees_214 : decode cL_agrees 214 = .ok (.if_icmp .ne 8, 3) := by decide +kernel
theorem dL_agrees_217 : decode cL_agrees 217 = .ok (.iload 8, 2) := by decide +kernel
theorem dL_agrees_219 : decode cL_agrees 219 = .ok (.ifCond .gt 38, 3) := by decide +kernel
theorem dL_agrees_222 : decode cL_agrees 222 = .ok (.aload_n 0, 1) := by decide +kernel
theorem dL_agrees_223 : decode cL_agrees 223 = .ok (.iload 6, 2) := by decide +kernel
theorem dL_agrees_225 : decode cL_agrees 225 = .ok (.iconst 2, 1) := by decide +kernel
theorem dL_agrees_226 : decode cL_agrees 226 = .ok (.invokevirtual 22, 3) := by decide +kernel
theorem dL_agrees_229 : decode cL_agrees 229 = .ok (.ifCond .lt 28, 3) := by decide +kernel
theorem dL_agrees_232 : decode cL_agrees 232 = .ok (.aload_n 0, 1) := by decide +kernel
theorem dL_agrees_233 : decode cL_agrees 233 = .ok (.iload 6, 2) := by decide +kernel
theorem dL_agrees_235 : decode cL_agrees 235 = .ok (.iconst 2, 1) := by decide +kernel
theorem dL_agrees_236 : decode cL_agrees 236 = .ok (.invokevirtual 22, 3) := by decide +kernel
theorem dL_agrees_239 : decode cL_agrees 239 = .ok (.ldc 42, 2) := by decide +kernel
theorem dL_agrees_241 : decode cL_agrees 241 = .ok (.if_icmp .gt 16, 3) := by decide +kernel
theorem dL_agrees_244 : decode cL_agrees 244 = .ok (.aload_n 0, 1) := by decide +kernel
theorem dL_agrees_245 : decode cL_agrees 245 = .ok (.iload 6, 2) := by decide +kernel
theorem dL_agrees_247 : decode cL_agrees 247 = .ok (.bipush 6, 2) := by decide +kernel
theorem dL_agrees_249 : decode cL_agrees 249 = .ok (.invokevirtual 22, 3) := by decide +kernel
theorem dL_agrees_252 : decode cL_agrees 252 = .ok (.bipush (-2), 2) := by decide +kernel
theorem dL_agrees_254 : decode cL_agrees 254 = .ok (.if_icmp .eq 5, 3) := by decide +kernel
theorem dL_agrees_257 : decode cL_agrees 257 = .ok (.iconst 0, 1) := by decide +kernel
theorem dL_agrees_258 : decode cL_agrees 258 = .ok (.ireturn, 1) := by decide +kernel
theorem dL_agrees_259 : decode cL_agrees 259 = .ok (.iload 7, 2) := by decide +kernel
theorem dL_agrees_261 : decode cL_agrees 261 = .ok (.ifCond .ne 45, 3) := by decide +kernel
theorem dL_agrees_264 : decode cL_agrees 264 = .ok (.iload 5, 2) := by decide +kernel
theorem dL_agrees_266 : decode cL_agrees 266 = .ok (.aload_n 0, 1) := by decide +kernel
theorem dL_agrees_267 : decode cL_agrees 267 = .ok (.iload 6, 2) := by decide +kernel
theorem dL_agrees_269 : decode cL_agrees 269 = .ok (.iconst 0, 1) := by decide +kernel
theorem dL_agrees_270 : decode cL_agrees 270 = .ok (.invokevirtual 19, 3) := by decide +kernel
theorem dL_agrees_273 : decode cL_agrees 273 = .ok (.bipush (-6), 2) := by decide +kernel
theorem dL_agrees_275 : decode cL_agrees 275 = .ok (.if_icmp .ne 7, 3) := by decide +kernel
theorem dL_agrees_278 : decode cL_agrees 278 = .ok (.iconst 1, 1) := by decide +kernel
theorem dL_agrees_279 : decode cL_agrees 279 = .ok (.goto 4, 3) := by decide +kernel
theorem dL_agrees_282 : decode cL_agrees 282 = .ok (.iconst 0, 1) := by decide +kernel
theorem dL_agrees_283 : decode cL_agrees 283 = .ok (.iadd, 1) := by decide +kernel
theorem dL_agrees_284 : decode cL_agrees 284 = .ok (.istore 5, 2) := by decide +kernel
theorem dL_agrees_286 : decode cL_agrees 286 = .ok (.aload_n 0, 1) := by decide +kernel
theorem dL_agrees_287 : decode cL_agrees 287 = .ok (.iload 6, 2) := by decide +kernel
theorem dL_agrees_289 : decode cL_agrees 289 = .ok (.invokestatic 43, 3) := by decide +kernel
theorem dL_agrees_292 : decode cL_agrees 292 = .ok (.ifCond .eq 12, 3) := by decide +kernel
theorem dL_agrees_295 : decode cL_agrees 295 = .ok (.aload_n 0, 1) := by decide +kernel
theorem dL_agrees_296 : decode cL_agrees 296 = .ok (.iload 6, 2) := by decide +kernel
theorem dL_agrees_298 : decode cL_agrees 298 = .ok (.invokestatic 47, 3) := by decide +kernel
theorem dL_agrees_301 : decode cL_agrees 301 = .ok (.ifCond .ne 54, 3) := by decide +kernel
theorem dL_agrees_304 : decode cL_agrees 304 = .ok (.iconst 0, 1) := by decide +kernel
theorem dL_agrees_305 : decode cL_agrees 305 = .ok (.ireturn, 1) := by decide +kernel
theorem dL_agrees_306 : decode cL_agrees 306 = .ok (.aload_n 0, 1) := by decide +kernel
theorem dL_agrees_307 : decode cL_agrees 307 = .ok (.iload 6, 2) := by decide +kernel
theorem dL_agrees_309 : decode cL_agrees 309 = .ok (.iconst 0, 1) := by decide +kernel
