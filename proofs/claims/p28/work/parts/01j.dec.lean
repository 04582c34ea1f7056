theorem dL_parts_2 : decode cL_parts 2 = .ok (.invokevirtual 9, 3) := by decide +kernel
theorem dL_parts_5 : decode cL_parts 5 = .ok (.istore_n 3, 1) := by decide +kernel
theorem dL_parts_6 : decode cL_parts 6 = .ok (.aload_n 0, 1) := by decide +kernel
theorem dL_parts_7 : decode cL_parts 7 = .ok (.iload_n 1, 1) := by decide +kernel
theorem dL_parts_8 : decode cL_parts 8 = .ok (.iconst 0, 1) := by decide +kernel
theorem dL_parts_9 : decode cL_parts 9 = .ok (.invokevirtual 22, 3) := by decide +kernel
theorem dL_parts_12 : decode cL_parts 12 = .ok (.istore 4, 2) := by decide +kernel
theorem dL_parts_14 : decode cL_parts 14 = .ok (.iconst 1, 1) := by decide +kernel
theorem dL_parts_15 : decode cL_parts 15 = .ok (.iload_n 2, 1) := by decide +kernel
theorem dL_parts_16 : decode cL_parts 16 = .ok (.bipush 6, 2) := by decide +kernel
theorem dL_parts_18 : decode cL_parts 18 = .ok (.invokestatic 65, 3) := by decide +kernel
theorem dL_parts_21 : decode cL_parts 21 = .ok (.iadd, 1) := by decide +kernel
theorem dL_parts_22 : decode cL_parts 22 = .ok (.istore 5, 2) := by decide +kernel
theorem dL_parts_24 : decode cL_parts 24 = .ok (.aload_n 0, 1) := by decide +kernel
theorem dL_parts_25 : decode cL_parts 25 = .ok (.iload_n 1, 1) := by decide +kernel
theorem dL_parts_26 : decode cL_parts 26 = .ok (.iconst 5, 1) := by decide +kernel
theorem dL_parts_27 : decode cL_parts 27 = .ok (.invokevirtual 22, 3) := by decide +kernel
theorem dL_parts_30 : decode cL_parts 30 = .ok (.ifCond .ne 7, 3) := by decide +kernel
theorem dL_parts_33 : decode cL_parts 33 = .ok (.iconst 1, 1) := by decide +kernel
theorem dL_parts_34 : decode cL_parts 34 = .ok (.goto 4, 3) := by decide +kernel
theorem dL_parts_37 : decode cL_parts 37 = .ok (.iconst 0, 1) := by decide +kernel
theorem dL_parts_38 : decode cL_parts 38 = .ok (.istore 6, 2) := by decide +kernel
theorem dL_parts_40 : decode cL_parts 40 = .ok (.iload_n 2, 1) := by decide +kernel
theorem dL_parts_41 : decode cL_parts 41 = .ok (.iconst 1, 1) := by decide +kernel
theorem dL_parts_42 : decode cL_parts 42 = .ok (.iand, 1) := by decide +kernel
theorem dL_parts_43 : decode cL_parts 43 = .ok (.ifCond .ne 174, 3) := by decide +kernel
theorem dL_parts_46 : decode cL_parts 46 = .ok (.iload 6, 2) := by decide +kernel
theorem dL_parts_48 : decode cL_parts 48 = .ok (.ifCond .eq 10, 3) := by decide +kernel
theorem dL_parts_51 : decode cL_parts 51 = .ok (.iload 4, 2) := by decide +kernel
theorem dL_parts_53 : decode cL_parts 53 = .ok (.iload 5, 2) := by decide +kernel
theorem dL_parts_55 : decode cL_parts 55 = .ok (.if_icmp .gt 8, 3) := by decide +kernel
theorem dL_parts_58 : decode cL_parts 58 = .ok (.bipush (-4), 2) := by decide +kernel
theorem dL_parts_60 : decode cL_parts 60 = .ok (.goto 15, 3) := by decide +kernel
theorem dL_parts_63 : decode cL_parts 63 = .ok (.iload_n 3, 1) := by decide +kernel
theorem dL_parts_64 : decode cL_parts 64 = .ok (.bipush 6, 2) := by decide +kernel
theorem dL_parts_66 : decode cL_parts 66 = .ok (.if_icmp .ne 8, 3) := by decide +kernel
theorem dL_parts_69 : decode cL_parts 69 = .ok (.bipush (-3), 2) := by decide +kernel
theorem dL_parts_71 : decode cL_parts 71 = .ok (.goto 4, 3) := by decide +kernel
theorem dL_parts_74 : decode cL_parts 74 = .ok (.iload_n 3, 1) := by decide +kernel
theorem dL_parts_75 : decode cL_parts 75 = .ok (.istore 7, 2) := by decide +kernel
theorem dL_parts_77 : decode cL_parts 77 = .ok (.aload_n 0, 1) := by decide +kernel
theorem dL_parts_78 : decode cL_parts 78 = .ok (.iload_n 1, 1) := by decide +kernel
theorem dL_parts_79 : decode cL_parts 79 = .ok (.iload 5, 2) := by decide +kernel
theorem dL_parts_81 : decode cL_parts 81 = .ok (.invokevirtual 68, 3) := by decide +kernel
theorem dL_parts_84 : decode cL_parts 84 = .ok (.iload 7, 2) := by decide +kernel
theorem dL_parts_86 : decode cL_parts 86 = .ok (.if_icmp .ne 26, 3) := by decide +kernel
theorem dL_parts_89 : decode cL_parts 89 = .ok (.aload_n 0, 1) := by decide +kernel
theorem dL_parts_90 : decode cL_parts 90 = .ok (.iload_n 1, 1) := by decide +kernel
theorem dL_parts_91 : decode cL_parts 91 = .ok (.iconst 0, 1) := by decide +kernel
theorem dL_parts_92 : decode cL_parts 92 = .ok (.invokevirtual 68, 3) := by decide +kernel
theorem dL_parts_95 : decode cL_parts 95 = .ok (.bipush (-2), 2) := by decide +kernel
theorem dL_parts_97 : decode cL_parts 97 = .ok (.if_icmp .ne 15, 3) := by decide +kernel
theorem dL_parts_100 : decode cL_parts 100 = .ok (.aload_n 0, 1) := by decide +kernel
theorem dL_parts_101 : decode cL_parts 101 = .ok (.iload_n 1, 1) := by decide +kernel
theorem dL_parts_102 : decode cL_parts 102 = .ok (.bipush 24, 2) := by decide +kernel
theorem dL_parts_104 : decode cL_parts 104 = .ok (.invokevirtual 68, 3) := by decide +kernel
theorem dL_parts_107 : decode cL_parts 107 = .ok (.bipush (-2), 2) := by decide +kernel
theorem dL_parts_109 : decode cL_parts 109 = .ok (.if_icmp .eq 5, 3) := by decide +kernel
theorem dL_parts_112 : decode cL_parts 112 = .ok (.iconst 0, 1) := by decide +kernel
theorem dL_parts_113 : decode cL_parts 113 = .ok (.ireturn, 1) := by decide +kernel
theorem dL_parts_114 : decode cL_parts 114 = .ok (.iload 7, 2) := by decide +kernel
theorem dL_parts_116 : decode cL_parts 116 = .ok (.ifCond .ge 22, 3) := by decide +kernel
theorem dL_parts_119 : decode cL_parts 119 = .ok (.aload_n 0, 1) := by decide +kernel
theorem dL_parts_120 : decode cL_parts 120 = .ok (.iload_n 1, 1) := by decide +kernel
theorem dL_parts_121 : decode cL_parts 121 = .ok (.iconst 0, 1) := by decide +kernel
theorem dL_parts_122 : decode cL_parts 122 = .ok (.invokevirtual 22, 3) := by decide +kernel
theorem dL_parts_125 : decode cL_parts 125 = .ok (.iload 4, 2) := by decide +kernel
theorem dL_parts_127 : decode cL_parts 127 = .ok (.if_icmp .ne 7, 3) := by decide +kernel
theorem dL_parts_130 : decode cL_parts 130 = .ok (.iconst 1, 1) := by decide +kernel
theorem dL_parts_131 : decode cL_parts 131 = .ok (.goto 85, 3) := by decide +kernel
theorem dL_parts_134 : decode cL_parts 134 = .ok (.iconst 0, 1) := by decide +kernel
theorem dL_parts_135 : decode cL_parts 135 = .ok (.goto 81, 3) := by decide +kernel
theorem dL_parts_138 : decode cL_parts 138 = .ok (.aload_n 0, 1) := by decide +kernel
theorem dL_parts_139 : decode cL_parts 139 = .ok (.iload_n 1, 1) := by decide +kernel
theorem dL_parts_140 : decode cL_parts 140 = .ok (.iconst 0, 1) := by decide +kernel
theorem dL_parts_141 : decode cL_parts 141 = .ok (.invokevirtual 22, 3) := by decide +kernel
theorem dL_parts_144 : decode cL_parts 144 = .ok (.iload 4, 2) := by decide +kernel
theorem dL_parts_146 : decode cL_parts 146 = .ok (.iload 5, 2) := by decide +kernel
theorem dL_parts_148 : decode cL_parts 148 = .ok (.isub, 1) := by decide +kernel
theorem dL_parts_149 : decode cL_parts 149 = .ok (.if_icmp .ne 66, 3) := by decide +kernel
theorem dL_parts_152 : decode cL_parts 152 = .ok (.aload_n 0, 1) := by decide +kernel
theorem dL_parts_153 : decode cL_parts 153 = .ok (.iload_n 3, 1) := by decide +kernel
theorem dL_parts_154 : decode cL_parts 154 = .ok (.iconst 0, 1) := by decide +kernel
theorem dL_parts_155 : decode cL_parts 155 = .ok (.invokevirtual 22, 3) := by decide +kernel
theorem dL_parts_158 : decode cL_parts 158 = .ok (.iload 5, 2) := by decide +kernel
theorem dL_parts_160 : decode cL_parts 160 = .ok (.if_icmp .ne 55, 3) := by decide +kernel
theorem dL_parts_163 : decode cL_parts 163 = .ok (.aload_n 0, 1) := by decide +kernel
theorem dL_parts_164 : decode cL_parts 164 = .ok (.iload_n 3, 1) := by decide +kernel
theorem dL_parts_165 : decode cL_parts 165 = .ok (.iconst 1, 1) := by decide +kernel
theorem dL_parts_166 : decode cL_parts 166 = .ok (.invokevirtual 22, 3) := by decide +kernel
theorem dL_parts_169 : decode cL_parts 169 = .ok (.aload_n 0, 1) := by decide +kernel
theorem dL_parts_170 : decode cL_parts 170 = .ok (.iload_n 1, 1) := by decide +kernel
theorem dL_parts_171 : decode cL_parts 171 = .ok (.iconst 1, 1) := by decide +kernel
theorem dL_parts_172 : decode cL_parts 172 = .ok (.invokevirtual 22, 3) := by decide +kernel
theorem dL_parts_175 : decode cL_parts 175 = .ok (.if_icmp .ne 40, 3) := by decide +kernel
theorem dL_parts_178 : decode cL_parts 178 = .ok (.aload_n 0, 1) := by decide +kernel
theorem dL_parts_179 : decode cL_parts 179 = .ok (.iload_n 3, 1) := by decide +kernel
theorem dL_parts_180 : decode cL_parts 180 = .ok (.iconst 2, 1) := by decide +kernel
theorem dL_parts_181 : decode cL_parts 181 = .ok (.invokevirtual 22, 3) := by decide +kernel
theorem dL_parts_184 : decode cL_parts 184 = .ok (.aload_n 0, 1) := by decide +kernel
theorem dL_parts_185 : decode cL_parts 185 = .ok (.iload_n 1, 1) := by decide +kernel
theorem dL_parts_186 : decode cL_parts 186 = .ok (.iconst 2, 1) := by decide +kernel
theorem dL_parts_187 : decode cL_parts 187 = .ok (.invokevirtual 22, 3) := by decide +kernel
theorem dL_parts_190 : decode cL_parts 190 = .ok (.if_icmp .ne 25, 3) := by decide +kernel
theorem dL_parts_193 : decode cL_parts 193 = .ok (.aload_n 0, 1) := by decide +kernel
theorem dL_parts_194 : decode cL_parts 194 = .ok (.iload_n 3, 1) := by decide +kernel
theorem dL_parts_195 : decode cL_parts 195 = .ok (.iconst 3, 1) := by decide +kernel
theorem dL_parts_196 : decode cL_parts 196 = .ok (.invokevirtual 22, 3) := by decide +kernel
theorem dL_parts_199 : decode cL_parts 199 = .ok (.ifCond .ne 16, 3) := by decide +kernel
theorem dL_parts_202 : decode cL_parts 202 = .ok (.aload_n 0, 1) := by decide +kernel
theorem dL_parts_203 : decode cL_parts 203 = .ok (.iload_n 3, 1) := by decide +kernel
theorem dL_parts_204 : decode cL_parts 204 = .ok (.iconst 4, 1) := by decide +kernel
theorem dL_parts_205 : decode cL_parts 205 = .ok (.invokevirtual 22, 3) := by decide +kernel
theorem dL_parts_208 : decode cL_parts 208 = .ok (.ifCond .ne 7, 3) := by decide +kernel
theorem dL_parts_211 : decode cL_parts 211 = .ok (.iconst 1, 1) := by decide +kernel
theorem dL_parts_212 : decode cL_parts 212 = .ok (.goto 4, 3) := by decide +kernel
theorem dL_parts_215 : decode cL_parts 215 = .ok (.iconst 0, 1) := by decide +kernel
theorem dL_parts_216 : decode cL_parts 216 = .ok (.ireturn, 1) := by decide +kernel
theorem dL_parts_217 : decode cL_parts 217 = .ok (.iload_n 2, 1) := by decide +kernel
theorem dL_parts_218 : decode cL_parts 218 = .ok (.iconst 1, 1) := by decide +kernel
theorem dL_parts_219 : decode cL_parts 219 = .ok (.ishr, 1) := by decide +kernel
theorem dL_parts_220 : decode cL_parts 220 = .ok (.iload_n 3, 1) := by decide +kernel
theorem dL_parts_221 : decode cL_parts 221 = .ok (.invokestatic 65, 3) := by decide +kernel
theorem dL_parts_224 : decode cL_parts 224 = .ok (.istore 7, 2) := by decide +kernel
theorem dL_parts_226 : decode cL_parts 226 = .ok (.iload 7, 2) := by decide +kernel
theorem dL_parts_228 : decode cL_parts 228 = .ok (.iload_n 1, 1) := by decide +kernel
theorem dL_parts_229 : decode cL_parts 229 = .ok (.if_icmp .ne 20, 3) := by decide +kernel
theorem dL_parts_232 : decode cL_parts 232 = .ok (.aload_n 0, 1) := by decide +kernel
theorem dL_parts_233 : decode cL_parts 233 = .ok (.iload_n 1, 1) := by decide +kernel
theorem dL_parts_234 : decode cL_parts 234 = .ok (.iload_n 1, 1) := by decide +kernel
theorem dL_parts_235 : decode cL_parts 235 = .ok (.invokevirtual 71, 3) := by decide +kernel
theorem dL_parts_238 : decode cL_parts 238 = .ok (.bipush (-2), 2) := by decide +kernel
theorem dL_parts_240 : decode cL_parts 240 = .ok (.if_icmp .ne 7, 3) := by decide +kernel
theorem dL_parts_243 : decode cL_parts 243 = .ok (.iconst 1, 1) := by decide +kernel
theorem dL_parts_244 : decode cL_parts 244 = .ok (.goto 4, 3) := by decide +kernel
theorem dL_parts_247 : decode cL_parts 247 = .ok (.iconst 0, 1) := by decide +kernel
theorem dL_parts_248 : decode cL_parts 248 = .ok (.ireturn, 1) := by decide +kernel
theorem dL_parts_249 : decode cL_parts 249 = .ok (.iload 4, 2) := by decide +kernel
theorem dL_parts_251 : decode cL_parts 251 = .ok (.aload_n 0, 1) := by decide +kernel
theorem dL_parts_252 : decode cL_parts 252 = .ok (.iload 7, 2) := by decide +kernel
theorem dL_parts_254 : decode cL_parts 254 = .ok (.iconst 0, 1) := by decide +kernel
theorem dL_parts_255 : decode cL_parts 255 = .ok (.invokevirtual 22, 3) := by decide +kernel
theorem dL_parts_258 : decode cL_parts 258 = .ok (.iadd, 1) := by decide +kernel
theorem dL_parts_259 : decode cL_parts 259 = .ok (.istore 8, 2) := by decide +kernel
theorem dL_parts_261 : decode cL_parts 261 = .ok (.aload_n 0, 1) := by decide +kernel
theorem dL_parts_262 : decode cL_parts 262 = .ok (.iload_n 1, 1) := by decide +kernel
theorem dL_parts_263 : decode cL_parts 263 = .ok (.iconst 2, 1) := by decide +kernel
theorem dL_parts_264 : decode cL_parts 264 = .ok (.invokevirtual 22, 3) := by decide +kernel
theorem dL_parts_267 : decode cL_parts 267 = .ok (.aload_n 0, 1) := by decide +kernel
theorem dL_parts_268 : decode cL_parts 268 = .ok (.iload 7, 2) := by decide +kernel
theorem dL_parts_270 : decode cL_parts 270 = .ok (.iconst 2, 1) := by decide +kernel
theorem dL_parts_271 : decode cL_parts 271 = .ok (.invokevirtual 22, 3) := by decide +kernel
theorem dL_parts_274 : decode cL_parts 274 = .ok (.if_icmp .le 12, 3) := by decide +kernel
theorem dL_parts_277 : decode cL_parts 277 = .ok (.aload_n 0, 1) := by decide +kernel
theorem dL_parts_278 : decode cL_parts 278 = .ok (.iload_n 1, 1) := by decide +kernel
theorem dL_parts_279 : decode cL_parts 279 = .ok (.iconst 2, 1) := by decide +kernel
theorem dL_parts_280 : decode cL_parts 280 = .ok (.invokevirtual 22, 3) := by decide +kernel
theorem dL_parts_283 : decode cL_parts 283 = .ok (.goto 10, 3) := by decide +kernel
theorem dL_parts_286 : decode cL_parts 286 = .ok (.aload_n 0, 1) := by decide +kernel
theorem dL_parts_287 : decode cL_parts 287 = .ok (.iload 7, 2) := by decide +kernel
theorem dL_parts_289 : decode cL_parts 289 = .ok (.iconst 2, 1) := by decide +kernel
theorem dL_parts_290 : decode cL_parts 290 = .ok (.invokevirtual 22, 3) := by decide +kernel
theorem dL_parts_293 : decode cL_parts 293 = .ok (.istore 9, 2) := by decide +kernel
theorem dL_parts_295 : decode cL_parts 295 = .ok (.aload_n 0, 1) := by decide +kernel
theorem dL_parts_296 : decode cL_parts 296 = .ok (.iload_n 1, 1) := by decide +kernel
theorem dL_parts_297 : decode cL_parts 297 = .ok (.iconst 3, 1) := by decide +kernel
theorem dL_parts_298 : decode cL_parts 298 = .ok (.invokevirtual 22, 3) := by decide +kernel
theorem dL_parts_301 : decode cL_parts 301 = .ok (.aload_n 0, 1) := by decide +kernel
theorem dL_parts_302 : decode cL_parts 302 = .ok (.iload 7, 2) := by decide +kernel
theorem dL_parts_304 : decode cL_parts 304 = .ok (.iconst 3, 1) := by decide +kernel
theorem dL_parts_305 : decode cL_parts 305 = .ok (.invokevirtual 22, 3) := by decide +kernel
theorem dL_parts_308 : decode cL_parts 308 = .ok (.iadd, 1) := by decide +kernel
theorem dL_parts_309 : decode cL_parts 309 = .ok (.istore 10, 2) := by decide +kernel
theorem dL_parts_311 : decode cL_parts 311 = .ok (.aload_n 0, 1) := by decide +kernel
theorem dL_parts_312 : decode cL_parts 312 = .ok (.iload_n 1, 1) := by decide +kernel
theorem dL_parts_313 : decode cL_parts 313 = .ok (.iconst 4, 1) := by decide +kernel
theorem dL_parts_314 : decode cL_parts 314 = .ok (.invokevirtual 22, 3) := by decide +kernel
theorem dL_parts_317 : decode cL_parts 317 = .ok (.aload_n 0, 1) := by decide +kernel
theorem dL_parts_318 : decode cL_parts 318 = .ok (.iload 7, 2) := by decide +kernel
theorem dL_parts_320 : decode cL_parts 320 = .ok (.iconst 4, 1) := by decide +kernel
theorem dL_parts_321 : decode cL_parts 321 = .ok (.invokevirtual 22, 3) := by decide +kernel
theorem dL_parts_324 : decode cL_parts 324 = .ok (.iadd, 1) := by decide +kernel
theorem dL_parts_325 : decode cL_parts 325 = .ok (.istore 11, 2) := by decide +kernel
theorem dL_parts_327 : decode cL_parts 327 = .ok (.iload 6, 2) := by decide +kernel
theorem dL_parts_329 : decode cL_parts 329 = .ok (.ifCond .eq 33, 3) := by decide +kernel
theorem dL_parts_332 : decode cL_parts 332 = .ok (.aload_n 0, 1) := by decide +kernel
theorem dL_parts_333 : decode cL_parts 333 = .ok (.iload 7, 2) := by decide +kernel
theorem dL_parts_335 : decode cL_parts 335 = .ok (.iconst 5, 1) := by decide +kernel
theorem dL_parts_336 : decode cL_parts 336 = .ok (.invokevirtual 22, 3) := by decide +kernel
theorem dL_parts_339 : decode cL_parts 339 = .ok (.ifCond .ne 23, 3) := by decide +kernel
theorem dL_parts_342 : decode cL_parts 342 = .ok (.aload_n 0, 1) := by decide +kernel
theorem dL_parts_343 : decode cL_parts 343 = .ok (.iload_n 1, 1) := by decide +kernel
theorem dL_parts_344 : decode cL_parts 344 = .ok (.iconst 1, 1) := by decide +kernel
theorem dL_parts_345 : decode cL_parts 345 = .ok (.invokevirtual 22, 3) := by decide +kernel
theorem dL_parts_348 : decode cL_parts 348 = .ok (.aload_n 0, 1) := by decide +kernel
theorem dL_parts_349 : decode cL_parts 349 = .ok (.iload 7, 2) := by decide +kernel
theorem dL_parts_351 : decode cL_parts 351 = .ok (.iconst 1, 1) := by decide +kernel
theorem dL_parts_352 : decode cL_parts 352 = .ok (.invokevirtual 22, 3) := by decide +kernel
theorem dL_parts_355 : decode cL_parts 355 = .ok (.if_icmp .ne 7, 3) := by decide +kernel
theorem dL_parts_358 : decode cL_parts 358 = .ok (.iconst 1, 1) := by decide +kernel
theorem dL_parts_359 : decode cL_parts 359 = .ok (.goto 4, 3) := by decide +kernel
theorem dL_parts_362 : decode cL_parts 362 = .ok (.iconst 0, 1) := by decide +kernel
theorem dL_parts_363 : decode cL_parts 363 = .ok (.istore 12, 2) := by decide +kernel
theorem dL_parts_365 : decode cL_parts 365 = .ok (.aload_n 0, 1) := by decide +kernel
theorem dL_parts_366 : decode cL_parts 366 = .ok (.iload_n 1, 1) := by decide +kernel
theorem dL_parts_367 : decode cL_parts 367 = .ok (.iload 7, 2) := by decide +kernel
theorem dL_parts_369 : decode cL_parts 369 = .ok (.invokevirtual 71, 3) := by decide +kernel
theorem dL_parts_372 : decode cL_parts 372 = .ok (.iload 12, 2) := by decide +kernel
theorem dL_parts_374 : decode cL_parts 374 = .ok (.ifCond .eq 8, 3) := by decide +kernel
theorem dL_parts_377 : decode cL_parts 377 = .ok (.iload 8, 2) := by decide +kernel
theorem dL_parts_379 : decode cL_parts 379 = .ok (.goto 5, 3) := by decide +kernel
theorem dL_parts_382 : decode cL_parts 382 = .ok (.bipush (-4), 2) := by decide +kernel
theorem dL_parts_384 : decode cL_parts 384 = .ok (.if_icmp .eq 5, 3) := by decide +kernel
theorem dL_parts_387 : decode cL_parts 387 = .ok (.iconst 0, 1) := by decide +kernel
theorem dL_parts_388 : decode cL_parts 388 = .ok (.ireturn, 1) := by decide +kernel
theorem dL_parts_389 : decode cL_parts 389 = .ok (.iload 12, 2) := by decide +kernel
theorem dL_parts_391 : decode cL_parts 391 = .ok (.ifCond .eq 58, 3) := by decide +kernel
theorem dL_parts_394 : decode cL_parts 394 = .ok (.aload_n 0, 1) := by decide +kernel
theorem dL_parts_395 : decode cL_parts 395 = .ok (.iload_n 1, 1) := by decide +kernel
theorem dL_parts_396 : decode cL_parts 396 = .ok (.iconst 5, 1) := by decide +kernel
theorem dL_parts_397 : decode cL_parts 397 = .ok (.invokevirtual 22, 3) := by decide +kernel
theorem dL_parts_400 : decode cL_parts 400 = .ok (.iconst 2, 1) := by decide +kernel
theorem dL_parts_401 : decode cL_parts 401 = .ok (.if_icmp .ne 52, 3) := by decide +kernel
theorem dL_parts_404 : decode cL_parts 404 = .ok (.aload_n 0, 1) := by decide +kernel
theorem dL_parts_405 : decode cL_parts 405 = .ok (.iload_n 1, 1) := by decide +kernel
theorem dL_parts_406 : decode cL_parts 406 = .ok (.iconst 3, 1) := by decide +kernel
theorem dL_parts_407 : decode cL_parts 407 = .ok (.invokevirtual 22, 3) := by decide +kernel
theorem dL_parts_410 : decode cL_parts 410 = .ok (.ifCond .ne 43, 3) := by decide +kernel
theorem dL_parts_413 : decode cL_parts 413 = .ok (.aload_n 0, 1) := by decide +kernel
theorem dL_parts_414 : decode cL_parts 414 = .ok (.iload 7, 2) := by decide +kernel
theorem dL_parts_416 : decode cL_parts 416 = .ok (.iconst 2, 1) := by decide +kernel
theorem dL_parts_417 : decode cL_parts 417 = .ok (.invokevirtual 22, 3) := by decide +kernel
theorem dL_parts_420 : decode cL_parts 420 = .ok (.iload 9, 2) := by decide +kernel
theorem dL_parts_422 : decode cL_parts 422 = .ok (.if_icmp .ne 31, 3) := by decide +kernel
theorem dL_parts_425 : decode cL_parts 425 = .ok (.aload_n 0, 1) := by decide +kernel
theorem dL_parts_426 : decode cL_parts 426 = .ok (.iload 7, 2) := by decide +kernel
theorem dL_parts_428 : decode cL_parts 428 = .ok (.iconst 3, 1) := by decide +kernel
theorem dL_parts_429 : decode cL_parts 429 = .ok (.invokevirtual 22, 3) := by decide +kernel
theorem dL_parts_432 : decode cL_parts 432 = .ok (.iload 10, 2) := by decide +kernel
theorem dL_parts_434 : decode cL_parts 434 = .ok (.if_icmp .ne 19, 3) := by decide +kernel
theorem dL_parts_437 : decode cL_parts 437 = .ok (.aload_n 0, 1) := by decide +kernel
theorem dL_parts_438 : decode cL_parts 438 = .ok (.iload 7, 2) := by decide +kernel
theorem dL_parts_440 : decode cL_parts 440 = .ok (.iconst 4, 1) := by decide +kernel
theorem dL_parts_441 : decode cL_parts 441 = .ok (.invokevirtual 22, 3) := by decide +kernel
theorem dL_parts_444 : decode cL_parts 444 = .ok (.iload 11, 2) := by decide +kernel
theorem dL_parts_446 : decode cL_parts 446 = .ok (.if_icmp .ne 7, 3) := by decide +kernel
theorem dL_parts_449 : decode cL_parts 449 = .ok (.iconst 1, 1) := by decide +kernel
theorem dL_parts_450 : decode cL_parts 450 = .ok (.goto 4, 3) := by decide +kernel
theorem dL_parts_453 : decode cL_parts 453 = .ok (.iconst 0, 1) := by decide +kernel
theorem dL_parts_454 : decode cL_parts 454 = .ok (.ireturn, 1) := by decide +kernel
theorem dL_hints_0 : decode cL_hints 0 = .ok (.aload_n 0, 1) := by decide +kernel
theorem dL_hints_1 : decode cL_hints 1 = .ok (.iload_n 1, 1) := by decide +kernel
theorem dL_hints_2 : decode cL_hints 2 = .ok (.iconst 2, 1) := by decide +kernel
theorem dL_hints_3 : decode cL_hints 3 = .ok (.invokevirtual 22, 3) := by decide +kernel
theorem dL_hints_6 : decode cL_hints 6 = .ok (.istore 4, 2) := by decide +kernel
theorem dL_hints_8 : decode cL_hints 8 = .ok (.aload_n 0, 1) := by decide +kernel
theorem dL_hints_9 : decode cL_hints 9 = .ok (.iload_n 1, 1) := by decide +kernel
theorem dL_hints_10 : decode cL_hints 10 = .ok (.iconst 4, 1) := by decide +kernel
theorem dL_hints_11 : decode cL_hints 11 = .ok (.invokevirtual 22, 3) := by decide +kernel
theorem dL_hints_14 : decode cL_hints 14 = .ok (.istore 5, 2) := by decide +kernel
theorem dL_hints_16 : decode cL_hints 16 = .ok (.iload_n 2, 1) := by decide +kernel
theorem dL_hints_17 : decode cL_hints 17 = .ok (.iload_n 3, 1) := by decide +kernel
theorem dL_hints_18 : decode cL_hints 18 = .ok (.iload 5, 2) := by decide +kernel
theorem dL_hints_20 : decode cL_hints 20 = .ok (.imul, 1) := by decide +kernel
theorem dL_hints_21 : decode cL_hints 21 = .ok (.iadd, 1) := by decide +kernel
theorem dL_hints_22 : decode cL_hints 22 = .ok (.istore 6, 2) := by decide +kernel
theorem dL_hints_24 : decode cL_hints 24 = .ok (.aload_n 0, 1) := by decide +kernel
theorem dL_hints_25 : decode cL_hints 25 = .ok (.iload_n 1, 1) := by decide +kernel
theorem dL_hints_26 : decode cL_hints 26 = .ok (.iconst 5, 1) := by decide +kernel
theorem dL_hints_27 : decode cL_hints 27 = .ok (.invokevirtual 22, 3) := by decide +kernel
theorem dL_hints_30 : decode cL_hints 30 = .ok (.ifCond .eq 19, 3) := by decide +kernel
theorem dL_hints_33 : decode cL_hints 33 = .ok (.aload_n 0, 1) := by decide +kernel
theorem dL_hints_34 : decode cL_hints 34 = .ok (.iload_n 1, 1) := by decide +kernel
theorem dL_hints_35 : decode cL_hints 35 = .ok (.invokevirtual 74, 3) := by decide +kernel
theorem dL_hints_38 : decode cL_hints 38 = .ok (.bipush (-4), 2) := by decide +kernel
theorem dL_hints_40 : decode cL_hints 40 = .ok (.if_icmp .ne 7, 3) := by decide +kernel
theorem dL_hints_43 : decode cL_hints 43 = .ok (.iconst 1, 1) := by decide +kernel
theorem dL_hints_44 : decode cL_hints 44 = .ok (.goto 4, 3) := by decide +kernel
theorem dL_hints_47 : decode cL_hints 47 = .ok (.iconst 0, 1) := by decide +kernel
theorem dL_hints_48 : decode cL_hints 48 = .ok (.ireturn, 1) := by decide +kernel
theorem dL_hints_49 : decode cL_hints 49 = .ok (.aload_n 0, 1) := by decide +kernel
theorem dL_hints_50 : decode cL_hints 50 = .ok (.iload_n 1, 1) := by decide +kernel
theorem dL_hints_51 : decode cL_hints 51 = .ok (.iconst 1, 1) := by decide +kernel
theorem dL_hints_52 : decode cL_hints 52 = .ok (.invokevirtual 19, 3) := by decide +kernel
theorem dL_hints_55 : decode cL_hints 55 = .ok (.istore 7, 2) := by decide +kernel
theorem dL_hints_57 : decode cL_hints 57 = .ok (.iload 4, 2) := by decide +kernel
theorem dL_hints_59 : decode cL_hints 59 = .ok (.iload 6, 2) := by decide +kernel
theorem dL_hints_61 : decode cL_hints 61 = .ok (.iadd, 1) := by decide +kernel
theorem dL_hints_62 : decode cL_hints 62 = .ok (.ldc 42, 2) := by decide +kernel
theorem dL_hints_64 : decode cL_hints 64 = .ok (.if_icmp .le 8, 3) := by decide +kernel
theorem dL_hints_67 : decode cL_hints 67 = .ok (.bipush (-5), 2) := by decide +kernel
theorem dL_hints_69 : decode cL_hints 69 = .ok (.goto 29, 3) := by decide +kernel
theorem dL_hints_72 : decode cL_hints 72 = .ok (.iload 7, 2) := by decide +kernel
theorem dL_hints_74 : decode cL_hints 74 = .ok (.ifCond .ge 8, 3) := by decide +kernel
theorem dL_hints_77 : decode cL_hints 77 = .ok (.bipush 17, 2) := by decide +kernel
theorem dL_hints_79 : decode cL_hints 79 = .ok (.goto 19, 3) := by decide +kernel
theorem dL_hints_82 : decode cL_hints 82 = .ok (.iload 7, 2) := by decide +kernel
theorem dL_hints_84 : decode cL_hints 84 = .ok (.ifCond .ne 8, 3) := by decide +kernel
theorem dL_hints_87 : decode cL_hints 87 = .ok (.bipush 16, 2) := by decide +kernel
theorem dL_hints_89 : decode cL_hints 89 = .ok (.goto 9, 3) := by decide +kernel
theorem dL_hints_92 : decode cL_hints 92 = .ok (.aload_n 0, 1) := by decide +kernel
theorem dL_hints_93 : decode cL_hints 93 = .ok (.iload_n 1, 1) := by decide +kernel
theorem dL_hints_94 : decode cL_hints 94 = .ok (.iconst 0, 1) := by decide +kernel
theorem dL_hints_95 : decode cL_hints 95 = .ok (.invokevirtual 31, 3) := by decide +kernel
theorem dL_hints_98 : decode cL_hints 98 = .ok (.istore 8, 2) := by decide +kernel
theorem dL_hints_100 : decode cL_hints 100 = .ok (.aload_n 0, 1) := by decide +kernel
theorem dL_hints_101 : decode cL_hints 101 = .ok (.iload_n 1, 1) := by decide +kernel
theorem dL_hints_102 : decode cL_hints 102 = .ok (.invokevirtual 74, 3) := by decide +kernel
theorem dL_hints_105 : decode cL_hints 105 = .ok (.iload 8, 2) := by decide +kernel
theorem dL_hints_107 : decode cL_hints 107 = .ok (.if_icmp .ne 54, 3) := by decide +kernel
theorem dL_hints_110 : decode cL_hints 110 = .ok (.aload_n 0, 1) := by decide +kernel
theorem dL_hints_111 : decode cL_hints 111 = .ok (.iload_n 1, 1) := by decide +kernel
theorem dL_hints_112 : decode cL_hints 112 = .ok (.iconst 2, 1) := by decide +kernel
theorem dL_hints_113 : decode cL_hints 113 = .ok (.invokevirtual 22, 3) := by decide +kernel
theorem dL_hints_116 : decode cL_hints 116 = .ok (.iload 8, 2) := by decide +kernel
theorem dL_hints_118 : decode cL_hints 118 = .ok (.ifCond .ge 8, 3) := by decide +kernel
theorem dL_hints_121 : decode cL_hints 121 = .ok (.iload 4, 2) := by decide +kernel
theorem dL_hints_123 : decode cL_hints 123 = .ok (.goto 8, 3) := by decide +kernel
theorem dL_hints_126 : decode cL_hints 126 = .ok (.iload 4, 2) := by decide +kernel
theorem dL_hints_128 : decode cL_hints 128 = .ok (.iload 6, 2) := by decide +kernel
theorem dL_hints_130 : decode cL_hints 130 = .ok (.iadd, 1) := by decide +kernel
theorem dL_hints_131 : decode cL_hints 131 = .ok (.if_icmp .ne 30, 3) := by decide +kernel
theorem dL_hints_134 : decode cL_hints 134 = .ok (.aload_n 0, 1) := by decide +kernel
theorem dL_hints_135 : decode cL_hints 135 = .ok (.iload_n 1, 1) := by decide +kernel
theorem dL_hints_136 : decode cL_hints 136 = .ok (.iconst 4, 1) := by decide +kernel
theorem dL_hints_137 : decode cL_hints 137 = .ok (.invokevirtual 22, 3) := by decide +kernel
theorem dL_hints_140 : decode cL_hints 140 = .ok (.iload 8, 2) := by decide +kernel
theorem dL_hints_142 : decode cL_hints 142 = .ok (.ifCond .ge 8, 3) := by decide +kernel
theorem dL_hints_145 : decode cL_hints 145 = .ok (.iload 5, 2) := by decide +kernel
theorem dL_hints_147 : decode cL_hints 147 = .ok (.goto 7, 3) := by decide +kernel
theorem dL_hints_150 : decode cL_hints 150 = .ok (.iload 5, 2) := by decide +kernel
theorem dL_hints_152 : decode cL_hints 152 = .ok (.iconst 1, 1) := by decide +kernel
theorem dL_hints_153 : decode cL_hints 153 = .ok (.iadd, 1) := by decide +kernel
theorem dL_hints_154 : decode cL_hints 154 = .ok (.if_icmp .ne 7, 3) := by decide +kernel
theorem dL_hints_157 : decode cL_hints 157 = .ok (.iconst 1, 1) := by decide +kernel
theorem dL_hints_158 : decode cL_hints 158 = .ok (.goto 4, 3) := by decide +kernel
theorem dL_hints_161 : decode cL_hints 161 = .ok (.iconst 0, 1) := by decide +kernel
theorem dL_hints_162 : decode cL_hints 162 = .ok (.ireturn, 1) := by decide +kernel
theorem dL_errors_0 : decode cL_errors 0 = .ok (.aload_n 0, 1) := by decide +kernel
theorem dL_errors_1 : decode cL_errors 1 = .ok (.iconst 3, 1) := by decide +kernel
