theorem dL_errors_2 : decode cL_errors 2 = .ok (.invokevirtual 9, 3) := by decide +kernel
theorem dL_errors_5 : decode cL_errors 5 = .ok (.istore_n 1, 1) := by decide +kernel
theorem dL_errors_6 : decode cL_errors 6 = .ok (.aload_n 0, 1) := by decide +kernel
theorem dL_errors_7 : decode cL_errors 7 = .ok (.iconst 0, 1) := by decide +kernel
theorem dL_errors_8 : decode cL_errors 8 = .ok (.invokevirtual 9, 3) := by decide +kernel
theorem dL_errors_11 : decode cL_errors 11 = .ok (.istore_n 2, 1) := by decide +kernel
theorem dL_errors_12 : decode cL_errors 12 = .ok (.aload_n 0, 1) := by decide +kernel
theorem dL_errors_13 : decode cL_errors 13 = .ok (.iload_n 2, 1) := by decide +kernel
theorem dL_errors_14 : decode cL_errors 14 = .ok (.invokevirtual 77, 3) := by decide +kernel
theorem dL_errors_17 : decode cL_errors 17 = .ok (.iconst (-1), 1) := by decide +kernel
theorem dL_errors_18 : decode cL_errors 18 = .ok (.if_icmp .ne 150, 3) := by decide +kernel
theorem dL_errors_21 : decode cL_errors 21 = .ok (.aload_n 0, 1) := by decide +kernel
theorem dL_errors_22 : decode cL_errors 22 = .ok (.iconst 0, 1) := by decide +kernel
theorem dL_errors_23 : decode cL_errors 23 = .ok (.iload_n 2, 1) := by decide +kernel
theorem dL_errors_24 : decode cL_errors 24 = .ok (.iconst 1, 1) := by decide +kernel
theorem dL_errors_25 : decode cL_errors 25 = .ok (.invokevirtual 80, 3) := by decide +kernel
theorem dL_errors_28 : decode cL_errors 28 = .ok (.iconst (-1), 1) := by decide +kernel
theorem dL_errors_29 : decode cL_errors 29 = .ok (.if_icmp .ne 139, 3) := by decide +kernel
theorem dL_errors_32 : decode cL_errors 32 = .ok (.aload_n 0, 1) := by decide +kernel
theorem dL_errors_33 : decode cL_errors 33 = .ok (.iconst 0, 1) := by decide +kernel
theorem dL_errors_34 : decode cL_errors 34 = .ok (.iconst 0, 1) := by decide +kernel
theorem dL_errors_35 : decode cL_errors 35 = .ok (.iconst 1, 1) := by decide +kernel
theorem dL_errors_36 : decode cL_errors 36 = .ok (.invokevirtual 80, 3) := by decide +kernel
theorem dL_errors_39 : decode cL_errors 39 = .ok (.bipush (-2), 2) := by decide +kernel
theorem dL_errors_41 : decode cL_errors 41 = .ok (.if_icmp .ne 127, 3) := by decide +kernel
theorem dL_errors_44 : decode cL_errors 44 = .ok (.aload_n 0, 1) := by decide +kernel
theorem dL_errors_45 : decode cL_errors 45 = .ok (.iconst 0, 1) := by decide +kernel
theorem dL_errors_46 : decode cL_errors 46 = .ok (.iconst 1, 1) := by decide +kernel
theorem dL_errors_47 : decode cL_errors 47 = .ok (.bipush 31, 2) := by decide +kernel
theorem dL_errors_49 : decode cL_errors 49 = .ok (.invokevirtual 80, 3) := by decide +kernel
theorem dL_errors_52 : decode cL_errors 52 = .ok (.bipush (-2), 2) := by decide +kernel
theorem dL_errors_54 : decode cL_errors 54 = .ok (.if_icmp .ne 114, 3) := by decide +kernel
theorem dL_errors_57 : decode cL_errors 57 = .ok (.aload_n 0, 1) := by decide +kernel
theorem dL_errors_58 : decode cL_errors 58 = .ok (.iconst 0, 1) := by decide +kernel
theorem dL_errors_59 : decode cL_errors 59 = .ok (.iconst 1, 1) := by decide +kernel
theorem dL_errors_60 : decode cL_errors 60 = .ok (.iconst 1, 1) := by decide +kernel
theorem dL_errors_61 : decode cL_errors 61 = .ok (.bipush 6, 2) := by decide +kernel
theorem dL_errors_63 : decode cL_errors 63 = .ok (.iconst 1, 1) := by decide +kernel
theorem dL_errors_64 : decode cL_errors 64 = .ok (.invokevirtual 84, 3) := by decide +kernel
theorem dL_errors_67 : decode cL_errors 67 = .ok (.bipush (-2), 2) := by decide +kernel
theorem dL_errors_69 : decode cL_errors 69 = .ok (.if_icmp .ne 99, 3) := by decide +kernel
theorem dL_errors_72 : decode cL_errors 72 = .ok (.aload_n 0, 1) := by decide +kernel
theorem dL_errors_73 : decode cL_errors 73 = .ok (.iconst 0, 1) := by decide +kernel
theorem dL_errors_74 : decode cL_errors 74 = .ok (.iconst 1, 1) := by decide +kernel
theorem dL_errors_75 : decode cL_errors 75 = .ok (.iconst 1, 1) := by decide +kernel
theorem dL_errors_76 : decode cL_errors 76 = .ok (.iconst 0, 1) := by decide +kernel
theorem dL_errors_77 : decode cL_errors 77 = .ok (.bipush 61, 2) := by decide +kernel
theorem dL_errors_79 : decode cL_errors 79 = .ok (.invokevirtual 84, 3) := by decide +kernel
theorem dL_errors_82 : decode cL_errors 82 = .ok (.bipush (-2), 2) := by decide +kernel
theorem dL_errors_84 : decode cL_errors 84 = .ok (.if_icmp .ne 84, 3) := by decide +kernel
theorem dL_errors_87 : decode cL_errors 87 = .ok (.aload_n 0, 1) := by decide +kernel
theorem dL_errors_88 : decode cL_errors 88 = .ok (.iload_n 2, 1) := by decide +kernel
theorem dL_errors_89 : decode cL_errors 89 = .ok (.iconst 0, 1) := by decide +kernel
theorem dL_errors_90 : decode cL_errors 90 = .ok (.invokevirtual 88, 3) := by decide +kernel
theorem dL_errors_93 : decode cL_errors 93 = .ok (.iconst (-1), 1) := by decide +kernel
theorem dL_errors_94 : decode cL_errors 94 = .ok (.if_icmp .ne 74, 3) := by decide +kernel
theorem dL_errors_97 : decode cL_errors 97 = .ok (.aload_n 0, 1) := by decide +kernel
theorem dL_errors_98 : decode cL_errors 98 = .ok (.iconst 0, 1) := by decide +kernel
theorem dL_errors_99 : decode cL_errors 99 = .ok (.iconst (-1), 1) := by decide +kernel
theorem dL_errors_100 : decode cL_errors 100 = .ok (.invokevirtual 88, 3) := by decide +kernel
theorem dL_errors_103 : decode cL_errors 103 = .ok (.bipush (-2), 2) := by decide +kernel
theorem dL_errors_105 : decode cL_errors 105 = .ok (.if_icmp .ne 63, 3) := by decide +kernel
theorem dL_errors_108 : decode cL_errors 108 = .ok (.aload_n 0, 1) := by decide +kernel
theorem dL_errors_109 : decode cL_errors 109 = .ok (.iconst 1, 1) := by decide +kernel
theorem dL_errors_110 : decode cL_errors 110 = .ok (.iload_n 2, 1) := by decide +kernel
theorem dL_errors_111 : decode cL_errors 111 = .ok (.invokevirtual 91, 3) := by decide +kernel
theorem dL_errors_114 : decode cL_errors 114 = .ok (.iconst (-1), 1) := by decide +kernel
theorem dL_errors_115 : decode cL_errors 115 = .ok (.if_icmp .ne 53, 3) := by decide +kernel
theorem dL_errors_118 : decode cL_errors 118 = .ok (.aload_n 0, 1) := by decide +kernel
theorem dL_errors_119 : decode cL_errors 119 = .ok (.iconst 0, 1) := by decide +kernel
theorem dL_errors_120 : decode cL_errors 120 = .ok (.iconst 0, 1) := by decide +kernel
theorem dL_errors_121 : decode cL_errors 121 = .ok (.invokevirtual 91, 3) := by decide +kernel
theorem dL_errors_124 : decode cL_errors 124 = .ok (.bipush (-2), 2) := by decide +kernel
theorem dL_errors_126 : decode cL_errors 126 = .ok (.if_icmp .ne 42, 3) := by decide +kernel
theorem dL_errors_129 : decode cL_errors 129 = .ok (.aload_n 0, 1) := by decide +kernel
theorem dL_errors_130 : decode cL_errors 130 = .ok (.bipush 25, 2) := by decide +kernel
theorem dL_errors_132 : decode cL_errors 132 = .ok (.iconst 0, 1) := by decide +kernel
theorem dL_errors_133 : decode cL_errors 133 = .ok (.invokevirtual 91, 3) := by decide +kernel
theorem dL_errors_136 : decode cL_errors 136 = .ok (.bipush (-2), 2) := by decide +kernel
theorem dL_errors_138 : decode cL_errors 138 = .ok (.if_icmp .ne 30, 3) := by decide +kernel
theorem dL_errors_141 : decode cL_errors 141 = .ok (.aload_n 0, 1) := by decide +kernel
theorem dL_errors_142 : decode cL_errors 142 = .ok (.iconst 0, 1) := by decide +kernel
theorem dL_errors_143 : decode cL_errors 143 = .ok (.iconst 0, 1) := by decide +kernel
theorem dL_errors_144 : decode cL_errors 144 = .ok (.invokevirtual 94, 3) := by decide +kernel
theorem dL_errors_147 : decode cL_errors 147 = .ok (.bipush (-2), 2) := by decide +kernel
theorem dL_errors_149 : decode cL_errors 149 = .ok (.if_icmp .ne 19, 3) := by decide +kernel
theorem dL_errors_152 : decode cL_errors 152 = .ok (.aload_n 0, 1) := by decide +kernel
theorem dL_errors_153 : decode cL_errors 153 = .ok (.iconst 1, 1) := by decide +kernel
theorem dL_errors_154 : decode cL_errors 154 = .ok (.bipush 31, 2) := by decide +kernel
theorem dL_errors_156 : decode cL_errors 156 = .ok (.invokevirtual 94, 3) := by decide +kernel
theorem dL_errors_159 : decode cL_errors 159 = .ok (.bipush (-2), 2) := by decide +kernel
theorem dL_errors_161 : decode cL_errors 161 = .ok (.if_icmp .ne 7, 3) := by decide +kernel
theorem dL_errors_164 : decode cL_errors 164 = .ok (.iconst 1, 1) := by decide +kernel
theorem dL_errors_165 : decode cL_errors 165 = .ok (.goto 4, 3) := by decide +kernel
theorem dL_errors_168 : decode cL_errors 168 = .ok (.iconst 0, 1) := by decide +kernel
theorem dL_errors_169 : decode cL_errors 169 = .ok (.istore_n 3, 1) := by decide +kernel
theorem dL_errors_170 : decode cL_errors 170 = .ok (.iload_n 3, 1) := by decide +kernel
theorem dL_errors_171 : decode cL_errors 171 = .ok (.ifCond .eq 157, 3) := by decide +kernel
theorem dL_errors_174 : decode cL_errors 174 = .ok (.aload_n 0, 1) := by decide +kernel
theorem dL_errors_175 : decode cL_errors 175 = .ok (.iload_n 1, 1) := by decide +kernel
theorem dL_errors_176 : decode cL_errors 176 = .ok (.iconst 0, 1) := by decide +kernel
theorem dL_errors_177 : decode cL_errors 177 = .ok (.invokevirtual 53, 3) := by decide +kernel
theorem dL_errors_180 : decode cL_errors 180 = .ok (.iconst (-1), 1) := by decide +kernel
theorem dL_errors_181 : decode cL_errors 181 = .ok (.if_icmp .ne 147, 3) := by decide +kernel
theorem dL_errors_184 : decode cL_errors 184 = .ok (.aload_n 0, 1) := by decide +kernel
theorem dL_errors_185 : decode cL_errors 185 = .ok (.iload_n 1, 1) := by decide +kernel
theorem dL_errors_186 : decode cL_errors 186 = .ok (.iconst 0, 1) := by decide +kernel
theorem dL_errors_187 : decode cL_errors 187 = .ok (.invokevirtual 56, 3) := by decide +kernel
theorem dL_errors_190 : decode cL_errors 190 = .ok (.iconst (-1), 1) := by decide +kernel
theorem dL_errors_191 : decode cL_errors 191 = .ok (.if_icmp .ne 137, 3) := by decide +kernel
theorem dL_errors_194 : decode cL_errors 194 = .ok (.aload_n 0, 1) := by decide +kernel
theorem dL_errors_195 : decode cL_errors 195 = .ok (.iload_n 1, 1) := by decide +kernel
theorem dL_errors_196 : decode cL_errors 196 = .ok (.iconst 0, 1) := by decide +kernel
theorem dL_errors_197 : decode cL_errors 197 = .ok (.invokevirtual 59, 3) := by decide +kernel
theorem dL_errors_200 : decode cL_errors 200 = .ok (.iconst (-1), 1) := by decide +kernel
theorem dL_errors_201 : decode cL_errors 201 = .ok (.if_icmp .ne 127, 3) := by decide +kernel
theorem dL_errors_204 : decode cL_errors 204 = .ok (.aload_n 0, 1) := by decide +kernel
theorem dL_errors_205 : decode cL_errors 205 = .ok (.iload_n 1, 1) := by decide +kernel
theorem dL_errors_206 : decode cL_errors 206 = .ok (.iconst 0, 1) := by decide +kernel
theorem dL_errors_207 : decode cL_errors 207 = .ok (.invokevirtual 62, 3) := by decide +kernel
theorem dL_errors_210 : decode cL_errors 210 = .ok (.iconst (-1), 1) := by decide +kernel
theorem dL_errors_211 : decode cL_errors 211 = .ok (.if_icmp .ne 117, 3) := by decide +kernel
theorem dL_errors_214 : decode cL_errors 214 = .ok (.aload_n 0, 1) := by decide +kernel
theorem dL_errors_215 : decode cL_errors 215 = .ok (.iload_n 1, 1) := by decide +kernel
theorem dL_errors_216 : decode cL_errors 216 = .ok (.iconst 1, 1) := by decide +kernel
theorem dL_errors_217 : decode cL_errors 217 = .ok (.invokevirtual 97, 3) := by decide +kernel
theorem dL_errors_220 : decode cL_errors 220 = .ok (.iconst (-1), 1) := by decide +kernel
theorem dL_errors_221 : decode cL_errors 221 = .ok (.if_icmp .ne 107, 3) := by decide +kernel
theorem dL_errors_224 : decode cL_errors 224 = .ok (.aload_n 0, 1) := by decide +kernel
theorem dL_errors_225 : decode cL_errors 225 = .ok (.iconst 0, 1) := by decide +kernel
theorem dL_errors_226 : decode cL_errors 226 = .ok (.iconst 0, 1) := by decide +kernel
theorem dL_errors_227 : decode cL_errors 227 = .ok (.invokevirtual 97, 3) := by decide +kernel
theorem dL_errors_230 : decode cL_errors 230 = .ok (.bipush (-2), 2) := by decide +kernel
theorem dL_errors_232 : decode cL_errors 232 = .ok (.if_icmp .ne 96, 3) := by decide +kernel
theorem dL_errors_235 : decode cL_errors 235 = .ok (.aload_n 0, 1) := by decide +kernel
theorem dL_errors_236 : decode cL_errors 236 = .ok (.iconst 0, 1) := by decide +kernel
theorem dL_errors_237 : decode cL_errors 237 = .ok (.sipush 1001, 3) := by decide +kernel
theorem dL_errors_240 : decode cL_errors 240 = .ok (.invokevirtual 97, 3) := by decide +kernel
theorem dL_errors_243 : decode cL_errors 243 = .ok (.bipush (-2), 2) := by decide +kernel
theorem dL_errors_245 : decode cL_errors 245 = .ok (.if_icmp .ne 83, 3) := by decide +kernel
theorem dL_errors_248 : decode cL_errors 248 = .ok (.aload_n 0, 1) := by decide +kernel
theorem dL_errors_249 : decode cL_errors 249 = .ok (.iload_n 1, 1) := by decide +kernel
theorem dL_errors_250 : decode cL_errors 250 = .ok (.iconst 1, 1) := by decide +kernel
theorem dL_errors_251 : decode cL_errors 251 = .ok (.invokevirtual 68, 3) := by decide +kernel
theorem dL_errors_254 : decode cL_errors 254 = .ok (.iconst (-1), 1) := by decide +kernel
theorem dL_errors_255 : decode cL_errors 255 = .ok (.if_icmp .ne 73, 3) := by decide +kernel
theorem dL_errors_258 : decode cL_errors 258 = .ok (.aload_n 0, 1) := by decide +kernel
theorem dL_errors_259 : decode cL_errors 259 = .ok (.iload_n 1, 1) := by decide +kernel
theorem dL_errors_260 : decode cL_errors 260 = .ok (.iconst 0, 1) := by decide +kernel
theorem dL_errors_261 : decode cL_errors 261 = .ok (.invokevirtual 71, 3) := by decide +kernel
theorem dL_errors_264 : decode cL_errors 264 = .ok (.iconst (-1), 1) := by decide +kernel
theorem dL_errors_265 : decode cL_errors 265 = .ok (.if_icmp .ne 63, 3) := by decide +kernel
theorem dL_errors_268 : decode cL_errors 268 = .ok (.aload_n 0, 1) := by decide +kernel
theorem dL_errors_269 : decode cL_errors 269 = .ok (.iload_n 1, 1) := by decide +kernel
theorem dL_errors_270 : decode cL_errors 270 = .ok (.invokevirtual 100, 3) := by decide +kernel
theorem dL_errors_273 : decode cL_errors 273 = .ok (.iconst (-1), 1) := by decide +kernel
theorem dL_errors_274 : decode cL_errors 274 = .ok (.if_icmp .ne 54, 3) := by decide +kernel
theorem dL_errors_277 : decode cL_errors 277 = .ok (.aload_n 0, 1) := by decide +kernel
theorem dL_errors_278 : decode cL_errors 278 = .ok (.iload_n 1, 1) := by decide +kernel
theorem dL_errors_279 : decode cL_errors 279 = .ok (.invokevirtual 74, 3) := by decide +kernel
theorem dL_errors_282 : decode cL_errors 282 = .ok (.iconst (-1), 1) := by decide +kernel
theorem dL_errors_283 : decode cL_errors 283 = .ok (.if_icmp .ne 45, 3) := by decide +kernel
theorem dL_errors_286 : decode cL_errors 286 = .ok (.aload_n 0, 1) := by decide +kernel
theorem dL_errors_287 : decode cL_errors 287 = .ok (.aload_n 0, 1) := by decide +kernel
theorem dL_errors_288 : decode cL_errors 288 = .ok (.iconst 1, 1) := by decide +kernel
theorem dL_errors_289 : decode cL_errors 289 = .ok (.invokevirtual 9, 3) := by decide +kernel
theorem dL_errors_292 : decode cL_errors 292 = .ok (.iconst 0, 1) := by decide +kernel
theorem dL_errors_293 : decode cL_errors 293 = .ok (.invokevirtual 15, 3) := by decide +kernel
theorem dL_errors_296 : decode cL_errors 296 = .ok (.iconst (-1), 1) := by decide +kernel
theorem dL_errors_297 : decode cL_errors 297 = .ok (.if_icmp .ne 31, 3) := by decide +kernel
theorem dL_errors_300 : decode cL_errors 300 = .ok (.aload_n 0, 1) := by decide +kernel
theorem dL_errors_301 : decode cL_errors 301 = .ok (.aload_n 0, 1) := by decide +kernel
theorem dL_errors_302 : decode cL_errors 302 = .ok (.iconst 2, 1) := by decide +kernel
theorem dL_errors_303 : decode cL_errors 303 = .ok (.invokevirtual 9, 3) := by decide +kernel
theorem dL_errors_306 : decode cL_errors 306 = .ok (.iconst 0, 1) := by decide +kernel
theorem dL_errors_307 : decode cL_errors 307 = .ok (.invokevirtual 34, 3) := by decide +kernel
theorem dL_errors_310 : decode cL_errors 310 = .ok (.iconst (-1), 1) := by decide +kernel
theorem dL_errors_311 : decode cL_errors 311 = .ok (.if_icmp .ne 17, 3) := by decide +kernel
theorem dL_errors_314 : decode cL_errors 314 = .ok (.aload_n 0, 1) := by decide +kernel
theorem dL_errors_315 : decode cL_errors 315 = .ok (.iload_n 1, 1) := by decide +kernel
theorem dL_errors_316 : decode cL_errors 316 = .ok (.iconst 0, 1) := by decide +kernel
theorem dL_errors_317 : decode cL_errors 317 = .ok (.invokevirtual 22, 3) := by decide +kernel
theorem dL_errors_320 : decode cL_errors 320 = .ok (.iconst (-1), 1) := by decide +kernel
theorem dL_errors_321 : decode cL_errors 321 = .ok (.if_icmp .ne 7, 3) := by decide +kernel
theorem dL_errors_324 : decode cL_errors 324 = .ok (.iconst 1, 1) := by decide +kernel
theorem dL_errors_325 : decode cL_errors 325 = .ok (.goto 4, 3) := by decide +kernel
theorem dL_errors_328 : decode cL_errors 328 = .ok (.iconst 0, 1) := by decide +kernel
theorem dL_errors_329 : decode cL_errors 329 = .ok (.ireturn, 1) := by decide +kernel
theorem dL_law_0 : decode cL_law 0 = .ok (.new 10, 3) := by decide +kernel
theorem dL_law_3 : decode cL_law 3 = .ok (.dup, 1) := by decide +kernel
theorem dL_law_4 : decode cL_law 4 = .ok (.invokespecial 103, 3) := by decide +kernel
theorem dL_law_7 : decode cL_law 7 = .ok (.astore_n 1, 1) := by decide +kernel
theorem dL_law_8 : decode cL_law 8 = .ok (.iconst 3, 1) := by decide +kernel
theorem dL_law_9 : decode cL_law 9 = .ok (.aload_n 0, 1) := by decide +kernel
theorem dL_law_10 : decode cL_law 10 = .ok (.iconst 0, 1) := by decide +kernel
theorem dL_law_11 : decode cL_law 11 = .ok (.invokestatic 104, 3) := by decide +kernel
theorem dL_law_14 : decode cL_law 14 = .ok (.iconst 4, 1) := by decide +kernel
theorem dL_law_15 : decode cL_law 15 = .ok (.invokestatic 65, 3) := by decide +kernel
theorem dL_law_18 : decode cL_law 18 = .ok (.iadd, 1) := by decide +kernel
theorem dL_law_19 : decode cL_law 19 = .ok (.istore_n 2, 1) := by decide +kernel
theorem dL_law_20 : decode cL_law 20 = .ok (.iconst 0, 1) := by decide +kernel
theorem dL_law_21 : decode cL_law 21 = .ok (.istore_n 3, 1) := by decide +kernel
theorem dL_law_22 : decode cL_law 22 = .ok (.iload_n 3, 1) := by decide +kernel
theorem dL_law_23 : decode cL_law 23 = .ok (.iload_n 2, 1) := by decide +kernel
theorem dL_law_24 : decode cL_law 24 = .ok (.if_icmp .ge 19, 3) := by decide +kernel
theorem dL_law_27 : decode cL_law 27 = .ok (.aload_n 1, 1) := by decide +kernel
theorem dL_law_28 : decode cL_law 28 = .ok (.invokevirtual 108, 3) := by decide +kernel
theorem dL_law_31 : decode cL_law 31 = .ok (.iload_n 3, 1) := by decide +kernel
theorem dL_law_32 : decode cL_law 32 = .ok (.if_icmp .eq 5, 3) := by decide +kernel
theorem dL_law_35 : decode cL_law 35 = .ok (.iconst 0, 1) := by decide +kernel
theorem dL_law_36 : decode cL_law 36 = .ok (.ireturn, 1) := by decide +kernel
theorem dL_law_37 : decode cL_law 37 = .ok (.iinc 3 1, 3) := by decide +kernel
theorem dL_law_40 : decode cL_law 40 = .ok (.goto (-18), 3) := by decide +kernel
theorem dL_law_43 : decode cL_law 43 = .ok (.iconst 5, 1) := by decide +kernel
theorem dL_law_44 : decode cL_law 44 = .ok (.istore_n 3, 1) := by decide +kernel
theorem dL_law_45 : decode cL_law 45 = .ok (.iconst 5, 1) := by decide +kernel
theorem dL_law_46 : decode cL_law 46 = .ok (.istore 4, 2) := by decide +kernel
theorem dL_law_48 : decode cL_law 48 = .ok (.aload_n 1, 1) := by decide +kernel
theorem dL_law_49 : decode cL_law 49 = .ok (.bipush 8, 2) := by decide +kernel
theorem dL_law_51 : decode cL_law 51 = .ok (.iconst 0, 1) := by decide +kernel
theorem dL_law_52 : decode cL_law 52 = .ok (.invokevirtual 91, 3) := by decide +kernel
theorem dL_law_55 : decode cL_law 55 = .ok (.ifCond .ne 22, 3) := by decide +kernel
theorem dL_law_58 : decode cL_law 58 = .ok (.aload_n 1, 1) := by decide +kernel
theorem dL_law_59 : decode cL_law 59 = .ok (.iconst 0, 1) := by decide +kernel
theorem dL_law_60 : decode cL_law 60 = .ok (.iconst 1, 1) := by decide +kernel
theorem dL_law_61 : decode cL_law 61 = .ok (.iconst 3, 1) := by decide +kernel
theorem dL_law_62 : decode cL_law 62 = .ok (.invokevirtual 80, 3) := by decide +kernel
theorem dL_law_65 : decode cL_law 65 = .ok (.ifCond .ne 12, 3) := by decide +kernel
theorem dL_law_68 : decode cL_law 68 = .ok (.aload_n 1, 1) := by decide +kernel
theorem dL_law_69 : decode cL_law 69 = .ok (.iconst 0, 1) := by decide +kernel
theorem dL_law_70 : decode cL_law 70 = .ok (.iconst 0, 1) := by decide +kernel
theorem dL_law_71 : decode cL_law 71 = .ok (.invokevirtual 88, 3) := by decide +kernel
theorem dL_law_74 : decode cL_law 74 = .ok (.ifCond .eq 5, 3) := by decide +kernel
theorem dL_law_77 : decode cL_law 77 = .ok (.iconst 0, 1) := by decide +kernel
theorem dL_law_78 : decode cL_law 78 = .ok (.ireturn, 1) := by decide +kernel
theorem dL_law_79 : decode cL_law 79 = .ok (.iconst 0, 1) := by decide +kernel
theorem dL_law_80 : decode cL_law 80 = .ok (.istore 5, 2) := by decide +kernel
theorem dL_law_82 : decode cL_law 82 = .ok (.iload 5, 2) := by decide +kernel
theorem dL_law_84 : decode cL_law 84 = .ok (.bipush 40, 2) := by decide +kernel
theorem dL_law_86 : decode cL_law 86 = .ok (.if_icmp .ge 835, 3) := by decide +kernel
theorem dL_law_89 : decode cL_law 89 = .ok (.aload_n 0, 1) := by decide +kernel
theorem dL_law_90 : decode cL_law 90 = .ok (.iconst 1, 1) := by decide +kernel
theorem dL_law_91 : decode cL_law 91 = .ok (.iconst 2, 1) := by decide +kernel
theorem dL_law_92 : decode cL_law 92 = .ok (.iload 5, 2) := by decide +kernel
theorem dL_law_94 : decode cL_law 94 = .ok (.imul, 1) := by decide +kernel
theorem dL_law_95 : decode cL_law 95 = .ok (.iadd, 1) := by decide +kernel
theorem dL_law_96 : decode cL_law 96 = .ok (.invokestatic 104, 3) := by decide +kernel
theorem dL_law_99 : decode cL_law 99 = .ok (.istore 6, 2) := by decide +kernel
theorem dL_law_101 : decode cL_law 101 = .ok (.aload_n 0, 1) := by decide +kernel
theorem dL_law_102 : decode cL_law 102 = .ok (.iconst 2, 1) := by decide +kernel
theorem dL_law_103 : decode cL_law 103 = .ok (.iconst 2, 1) := by decide +kernel
theorem dL_law_104 : decode cL_law 104 = .ok (.iload 5, 2) := by decide +kernel
theorem dL_law_106 : decode cL_law 106 = .ok (.imul, 1) := by decide +kernel
theorem dL_law_107 : decode cL_law 107 = .ok (.iadd, 1) := by decide +kernel
theorem dL_law_108 : decode cL_law 108 = .ok (.invokestatic 104, 3) := by decide +kernel
theorem dL_law_111 : decode cL_law 111 = .ok (.istore 7, 2) := by decide +kernel
theorem dL_law_113 : decode cL_law 113 = .ok (.iload 5, 2) := by decide +kernel
theorem dL_law_115 : decode cL_law 115 = .ok (.bipush 6, 2) := by decide +kernel
theorem dL_law_117 : decode cL_law 117 = .ok (.if_icmp .ge 12, 3) := by decide +kernel
theorem dL_law_120 : decode cL_law 120 = .ok (.iload 6, 2) := by decide +kernel
theorem dL_law_122 : decode cL_law 122 = .ok (.iconst 5, 1) := by decide +kernel
theorem dL_law_123 : decode cL_law 123 = .ok (.invokestatic 65, 3) := by decide +kernel
theorem dL_law_126 : decode cL_law 126 = .ok (.goto 10, 3) := by decide +kernel
theorem dL_law_129 : decode cL_law 129 = .ok (.iload 6, 2) := by decide +kernel
theorem dL_law_131 : decode cL_law 131 = .ok (.bipush 17, 2) := by decide +kernel
theorem dL_law_133 : decode cL_law 133 = .ok (.invokestatic 65, 3) := by decide +kernel
theorem dL_law_136 : decode cL_law 136 = .ok (.istore 8, 2) := by decide +kernel
theorem dL_law_138 : decode cL_law 138 = .ok (.iload 6, 2) := by decide +kernel
theorem dL_law_140 : decode cL_law 140 = .ok (.iconst 5, 1) := by decide +kernel
theorem dL_law_141 : decode cL_law 141 = .ok (.ishr, 1) := by decide +kernel
theorem dL_law_142 : decode cL_law 142 = .ok (.istore 6, 2) := by decide +kernel
theorem dL_law_144 : decode cL_law 144 = .ok (.iload 7, 2) := by decide +kernel
theorem dL_law_146 : decode cL_law 146 = .ok (.aload_n 1, 1) := by decide +kernel
theorem dL_law_147 : decode cL_law 147 = .ok (.iconst 3, 1) := by decide +kernel
theorem dL_law_148 : decode cL_law 148 = .ok (.invokevirtual 9, 3) := by decide +kernel
theorem dL_law_151 : decode cL_law 151 = .ok (.invokestatic 65, 3) := by decide +kernel
theorem dL_law_154 : decode cL_law 154 = .ok (.istore 9, 2) := by decide +kernel
theorem dL_law_156 : decode cL_law 156 = .ok (.iload 6, 2) := by decide +kernel
theorem dL_law_158 : decode cL_law 158 = .ok (.aload_n 1, 1) := by decide +kernel
theorem dL_law_159 : decode cL_law 159 = .ok (.iconst 1, 1) := by decide +kernel
theorem dL_law_160 : decode cL_law 160 = .ok (.invokevirtual 9, 3) := by decide +kernel
theorem dL_law_163 : decode cL_law 163 = .ok (.invokestatic 65, 3) := by decide +kernel
theorem dL_law_166 : decode cL_law 166 = .ok (.istore 10, 2) := by decide +kernel
theorem dL_law_168 : decode cL_law 168 = .ok (.iload 6, 2) := by decide +kernel
theorem dL_law_170 : decode cL_law 170 = .ok (.aload_n 1, 1) := by decide +kernel
theorem dL_law_171 : decode cL_law 171 = .ok (.iconst 2, 1) := by decide +kernel
theorem dL_law_172 : decode cL_law 172 = .ok (.invokevirtual 9, 3) := by decide +kernel
theorem dL_law_175 : decode cL_law 175 = .ok (.invokestatic 65, 3) := by decide +kernel
theorem dL_law_178 : decode cL_law 178 = .ok (.istore 11, 2) := by decide +kernel
theorem dL_law_180 : decode cL_law 180 = .ok (.iload 8, 2) := by decide +kernel
theorem dL_law_182 : decode cL_law 182 = .ok (.ifCond .ne 74, 3) := by decide +kernel
theorem dL_law_185 : decode cL_law 185 = .ok (.aload_n 1, 1) := by decide +kernel
theorem dL_law_186 : decode cL_law 186 = .ok (.iconst 1, 1) := by decide +kernel
theorem dL_law_187 : decode cL_law 187 = .ok (.invokevirtual 9, 3) := by decide +kernel
theorem dL_law_190 : decode cL_law 190 = .ok (.istore 12, 2) := by decide +kernel
theorem dL_law_192 : decode cL_law 192 = .ok (.iload 6, 2) := by decide +kernel
theorem dL_law_194 : decode cL_law 194 = .ok (.iload_n 2, 1) := by decide +kernel
theorem dL_law_195 : decode cL_law 195 = .ok (.invokestatic 65, 3) := by decide +kernel
theorem dL_law_198 : decode cL_law 198 = .ok (.istore 13, 2) := by decide +kernel
theorem dL_law_200 : decode cL_law 200 = .ok (.iload 7, 2) := by decide +kernel
theorem dL_law_202 : decode cL_law 202 = .ok (.iload_n 2, 1) := by decide +kernel
theorem dL_law_203 : decode cL_law 203 = .ok (.invokestatic 65, 3) := by decide +kernel
theorem dL_law_206 : decode cL_law 206 = .ok (.istore 14, 2) := by decide +kernel
theorem dL_law_208 : decode cL_law 208 = .ok (.iload 12, 2) := by decide +kernel
theorem dL_law_210 : decode cL_law 210 = .ok (.bipush 12, 2) := by decide +kernel
theorem dL_law_212 : decode cL_law 212 = .ok (.if_icmp .ge 41, 3) := by decide +kernel
theorem dL_law_215 : decode cL_law 215 = .ok (.aload_n 1, 1) := by decide +kernel
theorem dL_law_216 : decode cL_law 216 = .ok (.iload 13, 2) := by decide +kernel
theorem dL_law_218 : decode cL_law 218 = .ok (.iload 14, 2) := by decide +kernel
theorem dL_law_220 : decode cL_law 220 = .ok (.iconst 1, 1) := by decide +kernel
theorem dL_law_221 : decode cL_law 221 = .ok (.iload 7, 2) := by decide +kernel
theorem dL_law_223 : decode cL_law 223 = .ok (.iconst 4, 1) := by decide +kernel
theorem dL_law_224 : decode cL_law 224 = .ok (.ishr, 1) := by decide +kernel
theorem dL_law_225 : decode cL_law 225 = .ok (.bipush 30, 2) := by decide +kernel
theorem dL_law_227 : decode cL_law 227 = .ok (.invokestatic 65, 3) := by decide +kernel
theorem dL_law_230 : decode cL_law 230 = .ok (.iadd, 1) := by decide +kernel
theorem dL_law_231 : decode cL_law 231 = .ok (.invokevirtual 80, 3) := by decide +kernel
theorem dL_law_234 : decode cL_law 234 = .ok (.iload 13, 2) := by decide +kernel
theorem dL_law_236 : decode cL_law 236 = .ok (.iload 14, 2) := by decide +kernel
theorem dL_law_238 : decode cL_law 238 = .ok (.if_icmp .ne 8, 3) := by decide +kernel
theorem dL_law_241 : decode cL_law 241 = .ok (.bipush (-2), 2) := by decide +kernel
theorem dL_law_243 : decode cL_law 243 = .ok (.goto 5, 3) := by decide +kernel
theorem dL_law_246 : decode cL_law 246 = .ok (.iload 12, 2) := by decide +kernel
theorem dL_law_248 : decode cL_law 248 = .ok (.if_icmp .eq 5, 3) := by decide +kernel
theorem dL_law_251 : decode cL_law 251 = .ok (.iconst 0, 1) := by decide +kernel
theorem dL_law_252 : decode cL_law 252 = .ok (.ireturn, 1) := by decide +kernel
theorem dL_law_253 : decode cL_law 253 = .ok (.goto 653, 3) := by decide +kernel
theorem dL_law_256 : decode cL_law 256 = .ok (.iload 8, 2) := by decide +kernel
theorem dL_law_258 : decode cL_law 258 = .ok (.iconst 3, 1) := by decide +kernel
theorem dL_law_259 : decode cL_law 259 = .ok (.if_icmp .ge 136, 3) := by decide +kernel
theorem dL_law_262 : decode cL_law 262 = .ok (.aload_n 1, 1) := by decide +kernel
theorem dL_law_263 : decode cL_law 263 = .ok (.iconst 1, 1) := by decide +kernel
theorem dL_law_264 : decode cL_law 264 = .ok (.invokevirtual 9, 3) := by decide +kernel
theorem dL_law_267 : decode cL_law 267 = .ok (.istore 12, 2) := by decide +kernel
theorem dL_law_269 : decode cL_law 269 = .ok (.iload 6, 2) := by decide +kernel
theorem dL_law_271 : decode cL_law 271 = .ok (.iload_n 2, 1) := by decide +kernel
theorem dL_law_272 : decode cL_law 272 = .ok (.invokestatic 65, 3) := by decide +kernel
theorem dL_law_275 : decode cL_law 275 = .ok (.istore 13, 2) := by decide +kernel
theorem dL_law_277 : decode cL_law 277 = .ok (.iload 7, 2) := by decide +kernel
theorem dL_law_279 : decode cL_law 279 = .ok (.iload_n 2, 1) := by decide +kernel
