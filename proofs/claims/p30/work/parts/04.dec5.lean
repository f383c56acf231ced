theorem dL_isAhead_0 : decode cL_isAhead 0 = .ok (.aload_n 0, 1) := by decide +kernel
theorem dL_isAhead_1 : decode cL_isAhead 1 = .ok (.invokestatic 75, 3) := by decide +kernel
theorem dL_isAhead_4 : decode cL_isAhead 4 = .ok (.lstore_n 3, 1) := by decide +kernel
theorem dL_isAhead_5 : decode cL_isAhead 5 = .ok (.aload_n 0, 1) := by decide +kernel
theorem dL_isAhead_6 : decode cL_isAhead 6 = .ok (.iconst 0, 1) := by decide +kernel
theorem dL_isAhead_7 : decode cL_isAhead 7 = .ok (.invokevirtual 13, 3) := by decide +kernel
theorem dL_isAhead_10 : decode cL_isAhead 10 = .ok (.istore 5, 2) := by decide +kernel
theorem dL_isAhead_12 : decode cL_isAhead 12 = .ok (.aload_n 0, 1) := by decide +kernel
theorem dL_isAhead_13 : decode cL_isAhead 13 = .ok (.bipush 6, 2) := by decide +kernel
theorem dL_isAhead_15 : decode cL_isAhead 15 = .ok (.invokevirtual 13, 3) := by decide +kernel
theorem dL_isAhead_18 : decode cL_isAhead 18 = .ok (.istore 6, 2) := by decide +kernel
theorem dL_isAhead_20 : decode cL_isAhead 20 = .ok (.aload_n 0, 1) := by decide +kernel
theorem dL_isAhead_21 : decode cL_isAhead 21 = .ok (.invokevirtual 79, 3) := by decide +kernel
theorem dL_isAhead_24 : decode cL_isAhead 24 = .ok (.istore 7, 2) := by decide +kernel
theorem dL_isAhead_26 : decode cL_isAhead 26 = .ok (.aload_n 0, 1) := by decide +kernel
theorem dL_isAhead_27 : decode cL_isAhead 27 = .ok (.invokevirtual 34, 3) := by decide +kernel
theorem dL_isAhead_30 : decode cL_isAhead 30 = .ok (.istore 8, 2) := by decide +kernel
theorem dL_isAhead_32 : decode cL_isAhead 32 = .ok (.aload_n 0, 1) := by decide +kernel
theorem dL_isAhead_33 : decode cL_isAhead 33 = .ok (.iload_n 1, 1) := by decide +kernel
theorem dL_isAhead_34 : decode cL_isAhead 34 = .ok (.iconst 0, 1) := by decide +kernel
theorem dL_isAhead_35 : decode cL_isAhead 35 = .ok (.invokevirtual 19, 3) := by decide +kernel
theorem dL_isAhead_38 : decode cL_isAhead 38 = .ok (.istore 9, 2) := by decide +kernel
theorem dL_isAhead_40 : decode cL_isAhead 40 = .ok (.aload_n 0, 1) := by decide +kernel
theorem dL_isAhead_41 : decode cL_isAhead 41 = .ok (.iload_n 1, 1) := by decide +kernel
theorem dL_isAhead_42 : decode cL_isAhead 42 = .ok (.iconst 0, 1) := by decide +kernel
theorem dL_isAhead_43 : decode cL_isAhead 43 = .ok (.invokevirtual 82, 3) := by decide +kernel
theorem dL_isAhead_46 : decode cL_isAhead 46 = .ok (.istore 10, 2) := by decide +kernel
theorem dL_isAhead_48 : decode cL_isAhead 48 = .ok (.aload_n 0, 1) := by decide +kernel
theorem dL_isAhead_49 : decode cL_isAhead 49 = .ok (.iload_n 1, 1) := by decide +kernel
theorem dL_isAhead_50 : decode cL_isAhead 50 = .ok (.iconst 1, 1) := by decide +kernel
theorem dL_isAhead_51 : decode cL_isAhead 51 = .ok (.invokevirtual 82, 3) := by decide +kernel
theorem dL_isAhead_54 : decode cL_isAhead 54 = .ok (.istore 11, 2) := by decide +kernel
theorem dL_isAhead_56 : decode cL_isAhead 56 = .ok (.aload_n 0, 1) := by decide +kernel
theorem dL_isAhead_57 : decode cL_isAhead 57 = .ok (.iload_n 1, 1) := by decide +kernel
theorem dL_isAhead_58 : decode cL_isAhead 58 = .ok (.iconst 2, 1) := by decide +kernel
theorem dL_isAhead_59 : decode cL_isAhead 59 = .ok (.invokevirtual 82, 3) := by decide +kernel
theorem dL_isAhead_62 : decode cL_isAhead 62 = .ok (.istore 12, 2) := by decide +kernel
theorem dL_isAhead_64 : decode cL_isAhead 64 = .ok (.aload_n 0, 1) := by decide +kernel
theorem dL_isAhead_65 : decode cL_isAhead 65 = .ok (.iload_n 1, 1) := by decide +kernel
theorem dL_isAhead_66 : decode cL_isAhead 66 = .ok (.iconst 3, 1) := by decide +kernel
theorem dL_isAhead_67 : decode cL_isAhead 67 = .ok (.invokevirtual 82, 3) := by decide +kernel
theorem dL_isAhead_70 : decode cL_isAhead 70 = .ok (.istore 13, 2) := by decide +kernel
theorem dL_isAhead_72 : decode cL_isAhead 72 = .ok (.iload 6, 2) := by decide +kernel
theorem dL_isAhead_74 : decode cL_isAhead 74 = .ok (.iload 12, 2) := by decide +kernel
theorem dL_isAhead_76 : decode cL_isAhead 76 = .ok (.iconst 1, 1) := by decide +kernel
theorem dL_isAhead_77 : decode cL_isAhead 77 = .ok (.iadd, 1) := by decide +kernel
theorem dL_isAhead_78 : decode cL_isAhead 78 = .ok (.if_icmp .gt 38, 3) := by decide +kernel
theorem dL_isAhead_81 : decode cL_isAhead 81 = .ok (.iload 12, 2) := by decide +kernel
theorem dL_isAhead_83 : decode cL_isAhead 83 = .ok (.iload 6, 2) := by decide +kernel
theorem dL_isAhead_85 : decode cL_isAhead 85 = .ok (.if_icmp .gt 31, 3) := by decide +kernel
theorem dL_isAhead_88 : decode cL_isAhead 88 = .ok (.iload 7, 2) := by decide +kernel
theorem dL_isAhead_90 : decode cL_isAhead 90 = .ok (.iconst (-1), 1) := by decide +kernel
theorem dL_isAhead_91 : decode cL_isAhead 91 = .ok (.if_icmp .ne 7, 3) := by decide +kernel
theorem dL_isAhead_94 : decode cL_isAhead 94 = .ok (.iconst 1, 1) := by decide +kernel
theorem dL_isAhead_95 : decode cL_isAhead 95 = .ok (.goto 4, 3) := by decide +kernel
theorem dL_isAhead_98 : decode cL_isAhead 98 = .ok (.iconst 0, 1) := by decide +kernel
theorem dL_isAhead_99 : decode cL_isAhead 99 = .ok (.iload 6, 2) := by decide +kernel
theorem dL_isAhead_101 : decode cL_isAhead 101 = .ok (.ifCond .ne 7, 3) := by decide +kernel
theorem dL_isAhead_104 : decode cL_isAhead 104 = .ok (.iconst 1, 1) := by decide +kernel
theorem dL_isAhead_105 : decode cL_isAhead 105 = .ok (.goto 4, 3) := by decide +kernel
theorem dL_isAhead_108 : decode cL_isAhead 108 = .ok (.iconst 0, 1) := by decide +kernel
theorem dL_isAhead_109 : decode cL_isAhead 109 = .ok (.if_icmp .ne 7, 3) := by decide +kernel
theorem dL_isAhead_112 : decode cL_isAhead 112 = .ok (.iconst 1, 1) := by decide +kernel
theorem dL_isAhead_113 : decode cL_isAhead 113 = .ok (.goto 4, 3) := by decide +kernel
theorem dL_isAhead_116 : decode cL_isAhead 116 = .ok (.iconst 0, 1) := by decide +kernel
theorem dL_isAhead_117 : decode cL_isAhead 117 = .ok (.istore 14, 2) := by decide +kernel
theorem dL_isAhead_119 : decode cL_isAhead 119 = .ok (.aload_n 0, 1) := by decide +kernel
theorem dL_isAhead_120 : decode cL_isAhead 120 = .ok (.iload_n 1, 1) := by decide +kernel
theorem dL_isAhead_121 : decode cL_isAhead 121 = .ok (.iload_n 2, 1) := by decide +kernel
theorem dL_isAhead_122 : decode cL_isAhead 122 = .ok (.invokevirtual 53, 3) := by decide +kernel
theorem dL_isAhead_125 : decode cL_isAhead 125 = .ok (.istore 15, 2) := by decide +kernel
theorem dL_isAhead_127 : decode cL_isAhead 127 = .ok (.iload 14, 2) := by decide +kernel
theorem dL_isAhead_129 : decode cL_isAhead 129 = .ok (.ifCond .eq 56, 3) := by decide +kernel
theorem dL_isAhead_132 : decode cL_isAhead 132 = .ok (.iload 15, 2) := by decide +kernel
theorem dL_isAhead_134 : decode cL_isAhead 134 = .ok (.aload_n 0, 1) := by decide +kernel
theorem dL_isAhead_135 : decode cL_isAhead 135 = .ok (.iconst 1, 1) := by decide +kernel
theorem dL_isAhead_136 : decode cL_isAhead 136 = .ok (.invokevirtual 13, 3) := by decide +kernel
theorem dL_isAhead_139 : decode cL_isAhead 139 = .ok (.if_icmp .ne 46, 3) := by decide +kernel
theorem dL_isAhead_142 : decode cL_isAhead 142 = .ok (.aload_n 0, 1) := by decide +kernel
theorem dL_isAhead_143 : decode cL_isAhead 143 = .ok (.iload_n 2, 1) := by decide +kernel
theorem dL_isAhead_144 : decode cL_isAhead 144 = .ok (.iconst 0, 1) := by decide +kernel
theorem dL_isAhead_145 : decode cL_isAhead 145 = .ok (.invokevirtual 19, 3) := by decide +kernel
theorem dL_isAhead_148 : decode cL_isAhead 148 = .ok (.iload 9, 2) := by decide +kernel
theorem dL_isAhead_150 : decode cL_isAhead 150 = .ok (.if_icmp .ne 35, 3) := by decide +kernel
theorem dL_isAhead_153 : decode cL_isAhead 153 = .ok (.aload_n 0, 1) := by decide +kernel
theorem dL_isAhead_154 : decode cL_isAhead 154 = .ok (.iload_n 2, 1) := by decide +kernel
theorem dL_isAhead_155 : decode cL_isAhead 155 = .ok (.iload_n 1, 1) := by decide +kernel
theorem dL_isAhead_156 : decode cL_isAhead 156 = .ok (.invokevirtual 53, 3) := by decide +kernel
theorem dL_isAhead_159 : decode cL_isAhead 159 = .ok (.aload_n 0, 1) := by decide +kernel
theorem dL_isAhead_160 : decode cL_isAhead 160 = .ok (.iconst 1, 1) := by decide +kernel
theorem dL_isAhead_161 : decode cL_isAhead 161 = .ok (.invokevirtual 13, 3) := by decide +kernel
theorem dL_isAhead_164 : decode cL_isAhead 164 = .ok (.if_icmp .ne 21, 3) := by decide +kernel
theorem dL_isAhead_167 : decode cL_isAhead 167 = .ok (.aload_n 0, 1) := by decide +kernel
theorem dL_isAhead_168 : decode cL_isAhead 168 = .ok (.invokevirtual 85, 3) := by decide +kernel
theorem dL_isAhead_171 : decode cL_isAhead 171 = .ok (.ifCond .lt 14, 3) := by decide +kernel
theorem dL_isAhead_174 : decode cL_isAhead 174 = .ok (.aload_n 0, 1) := by decide +kernel
theorem dL_isAhead_175 : decode cL_isAhead 175 = .ok (.invokevirtual 85, 3) := by decide +kernel
theorem dL_isAhead_178 : decode cL_isAhead 178 = .ok (.ifCond .lt 7, 3) := by decide +kernel
theorem dL_isAhead_181 : decode cL_isAhead 181 = .ok (.iconst 1, 1) := by decide +kernel
theorem dL_isAhead_182 : decode cL_isAhead 182 = .ok (.goto 4, 3) := by decide +kernel
theorem dL_isAhead_185 : decode cL_isAhead 185 = .ok (.iconst 0, 1) := by decide +kernel
theorem dL_isAhead_186 : decode cL_isAhead 186 = .ok (.istore 14, 2) := by decide +kernel
theorem dL_isAhead_188 : decode cL_isAhead 188 = .ok (.iload 14, 2) := by decide +kernel
theorem dL_isAhead_190 : decode cL_isAhead 190 = .ok (.ifCond .eq 11, 3) := by decide +kernel
theorem dL_isAhead_193 : decode cL_isAhead 193 = .ok (.aload_n 0, 1) := by decide +kernel
theorem dL_isAhead_194 : decode cL_isAhead 194 = .ok (.iload_n 1, 1) := by decide +kernel
theorem dL_isAhead_195 : decode cL_isAhead 195 = .ok (.invokevirtual 47, 3) := by decide +kernel
theorem dL_isAhead_198 : decode cL_isAhead 198 = .ok (.goto 4, 3) := by decide +kernel
theorem dL_isAhead_201 : decode cL_isAhead 201 = .ok (.iconst 0, 1) := by decide +kernel
theorem dL_isAhead_202 : decode cL_isAhead 202 = .ok (.istore 16, 2) := by decide +kernel
theorem dL_isAhead_204 : decode cL_isAhead 204 = .ok (.iload 14, 2) := by decide +kernel
theorem dL_isAhead_206 : decode cL_isAhead 206 = .ok (.ifCond .eq 75, 3) := by decide +kernel
theorem dL_isAhead_209 : decode cL_isAhead 209 = .ok (.iload 16, 2) := by decide +kernel
theorem dL_isAhead_211 : decode cL_isAhead 211 = .ok (.iload 9, 2) := by decide +kernel
theorem dL_isAhead_213 : decode cL_isAhead 213 = .ok (.if_icmp .ne 68, 3) := by decide +kernel
theorem dL_isAhead_216 : decode cL_isAhead 216 = .ok (.aload_n 0, 1) := by decide +kernel
theorem dL_isAhead_217 : decode cL_isAhead 217 = .ok (.iconst 0, 1) := by decide +kernel
theorem dL_isAhead_218 : decode cL_isAhead 218 = .ok (.invokevirtual 13, 3) := by decide +kernel
theorem dL_isAhead_221 : decode cL_isAhead 221 = .ok (.iload 5, 2) := by decide +kernel
theorem dL_isAhead_223 : decode cL_isAhead 223 = .ok (.iconst 1, 1) := by decide +kernel
theorem dL_isAhead_224 : decode cL_isAhead 224 = .ok (.isub, 1) := by decide +kernel
theorem dL_isAhead_225 : decode cL_isAhead 225 = .ok (.if_icmp .ne 56, 3) := by decide +kernel
theorem dL_isAhead_228 : decode cL_isAhead 228 = .ok (.aload_n 0, 1) := by decide +kernel
theorem dL_isAhead_229 : decode cL_isAhead 229 = .ok (.iconst 1, 1) := by decide +kernel
theorem dL_isAhead_230 : decode cL_isAhead 230 = .ok (.invokevirtual 13, 3) := by decide +kernel
theorem dL_isAhead_233 : decode cL_isAhead 233 = .ok (.iload 10, 2) := by decide +kernel
theorem dL_isAhead_235 : decode cL_isAhead 235 = .ok (.if_icmp .ne 46, 3) := by decide +kernel
theorem dL_isAhead_238 : decode cL_isAhead 238 = .ok (.aload_n 0, 1) := by decide +kernel
theorem dL_isAhead_239 : decode cL_isAhead 239 = .ok (.iconst 2, 1) := by decide +kernel
theorem dL_isAhead_240 : decode cL_isAhead 240 = .ok (.invokevirtual 13, 3) := by decide +kernel
theorem dL_isAhead_243 : decode cL_isAhead 243 = .ok (.iload 11, 2) := by decide +kernel
theorem dL_isAhead_245 : decode cL_isAhead 245 = .ok (.if_icmp .ne 36, 3) := by decide +kernel
theorem dL_isAhead_248 : decode cL_isAhead 248 = .ok (.aload_n 0, 1) := by decide +kernel
theorem dL_isAhead_249 : decode cL_isAhead 249 = .ok (.bipush 6, 2) := by decide +kernel
theorem dL_isAhead_251 : decode cL_isAhead 251 = .ok (.invokevirtual 13, 3) := by decide +kernel
theorem dL_isAhead_254 : decode cL_isAhead 254 = .ok (.iload 12, 2) := by decide +kernel
theorem dL_isAhead_256 : decode cL_isAhead 256 = .ok (.if_icmp .ne 25, 3) := by decide +kernel
theorem dL_isAhead_259 : decode cL_isAhead 259 = .ok (.aload_n 0, 1) := by decide +kernel
theorem dL_isAhead_260 : decode cL_isAhead 260 = .ok (.bipush 9, 2) := by decide +kernel
theorem dL_isAhead_262 : decode cL_isAhead 262 = .ok (.invokevirtual 13, 3) := by decide +kernel
theorem dL_isAhead_265 : decode cL_isAhead 265 = .ok (.iload 13, 2) := by decide +kernel
theorem dL_isAhead_267 : decode cL_isAhead 267 = .ok (.if_icmp .ne 14, 3) := by decide +kernel
theorem dL_isAhead_270 : decode cL_isAhead 270 = .ok (.aload_n 0, 1) := by decide +kernel
theorem dL_isAhead_271 : decode cL_isAhead 271 = .ok (.invokevirtual 85, 3) := by decide +kernel
theorem dL_isAhead_274 : decode cL_isAhead 274 = .ok (.ifCond .lt 7, 3) := by decide +kernel
theorem dL_isAhead_277 : decode cL_isAhead 277 = .ok (.iconst 1, 1) := by decide +kernel
theorem dL_isAhead_278 : decode cL_isAhead 278 = .ok (.goto 4, 3) := by decide +kernel
theorem dL_isAhead_281 : decode cL_isAhead 281 = .ok (.iconst 0, 1) := by decide +kernel
theorem dL_isAhead_282 : decode cL_isAhead 282 = .ok (.istore 14, 2) := by decide +kernel
theorem dL_isAhead_284 : decode cL_isAhead 284 = .ok (.iload 14, 2) := by decide +kernel
theorem dL_isAhead_286 : decode cL_isAhead 286 = .ok (.ifCond .eq 57, 3) := by decide +kernel
theorem dL_isAhead_289 : decode cL_isAhead 289 = .ok (.iload 7, 2) := by decide +kernel
theorem dL_isAhead_291 : decode cL_isAhead 291 = .ok (.ifCond .lt 52, 3) := by decide +kernel
theorem dL_isAhead_294 : decode cL_isAhead 294 = .ok (.aload_n 0, 1) := by decide +kernel
theorem dL_isAhead_295 : decode cL_isAhead 295 = .ok (.iload 7, 2) := by decide +kernel
theorem dL_isAhead_297 : decode cL_isAhead 297 = .ok (.bipush 20, 2) := by decide +kernel
theorem dL_isAhead_299 : decode cL_isAhead 299 = .ok (.idiv, 1) := by decide +kernel
theorem dL_isAhead_300 : decode cL_isAhead 300 = .ok (.iload 7, 2) := by decide +kernel
theorem dL_isAhead_302 : decode cL_isAhead 302 = .ok (.bipush 20, 2) := by decide +kernel
theorem dL_isAhead_304 : decode cL_isAhead 304 = .ok (.irem, 1) := by decide +kernel
theorem dL_isAhead_305 : decode cL_isAhead 305 = .ok (.invokevirtual 53, 3) := by decide +kernel
theorem dL_isAhead_308 : decode cL_isAhead 308 = .ok (.aload_n 0, 1) := by decide +kernel
theorem dL_isAhead_309 : decode cL_isAhead 309 = .ok (.iconst 1, 1) := by decide +kernel
theorem dL_isAhead_310 : decode cL_isAhead 310 = .ok (.invokevirtual 13, 3) := by decide +kernel
theorem dL_isAhead_313 : decode cL_isAhead 313 = .ok (.if_icmp .ne 27, 3) := by decide +kernel
theorem dL_isAhead_316 : decode cL_isAhead 316 = .ok (.aload_n 0, 1) := by decide +kernel
theorem dL_isAhead_317 : decode cL_isAhead 317 = .ok (.bipush 6, 2) := by decide +kernel
theorem dL_isAhead_319 : decode cL_isAhead 319 = .ok (.invokevirtual 13, 3) := by decide +kernel
theorem dL_isAhead_322 : decode cL_isAhead 322 = .ok (.iload 6, 2) := by decide +kernel
theorem dL_isAhead_324 : decode cL_isAhead 324 = .ok (.iconst 1, 1) := by decide +kernel
theorem dL_isAhead_325 : decode cL_isAhead 325 = .ok (.isub, 1) := by decide +kernel
theorem dL_isAhead_326 : decode cL_isAhead 326 = .ok (.if_icmp .ne 14, 3) := by decide +kernel
theorem dL_isAhead_329 : decode cL_isAhead 329 = .ok (.aload_n 0, 1) := by decide +kernel
theorem dL_isAhead_330 : decode cL_isAhead 330 = .ok (.invokevirtual 85, 3) := by decide +kernel
theorem dL_isAhead_333 : decode cL_isAhead 333 = .ok (.ifCond .lt 7, 3) := by decide +kernel
theorem dL_isAhead_336 : decode cL_isAhead 336 = .ok (.iconst 1, 1) := by decide +kernel
theorem dL_isAhead_337 : decode cL_isAhead 337 = .ok (.goto 4, 3) := by decide +kernel
theorem dL_isAhead_340 : decode cL_isAhead 340 = .ok (.iconst 0, 1) := by decide +kernel
theorem dL_isAhead_341 : decode cL_isAhead 341 = .ok (.istore 14, 2) := by decide +kernel
theorem dL_isAhead_343 : decode cL_isAhead 343 = .ok (.iload 14, 2) := by decide +kernel
theorem dL_isAhead_345 : decode cL_isAhead 345 = .ok (.ifCond .eq 55, 3) := by decide +kernel
theorem dL_isAhead_348 : decode cL_isAhead 348 = .ok (.iload 8, 2) := by decide +kernel
theorem dL_isAhead_350 : decode cL_isAhead 350 = .ok (.ifCond .lt 50, 3) := by decide +kernel
theorem dL_isAhead_353 : decode cL_isAhead 353 = .ok (.aload_n 0, 1) := by decide +kernel
theorem dL_isAhead_354 : decode cL_isAhead 354 = .ok (.iload 8, 2) := by decide +kernel
theorem dL_isAhead_356 : decode cL_isAhead 356 = .ok (.iconst 0, 1) := by decide +kernel
theorem dL_isAhead_357 : decode cL_isAhead 357 = .ok (.invokevirtual 23, 3) := by decide +kernel
theorem dL_isAhead_360 : decode cL_isAhead 360 = .ok (.ifCond .le 37, 3) := by decide +kernel
theorem dL_isAhead_363 : decode cL_isAhead 363 = .ok (.aload_n 0, 1) := by decide +kernel
theorem dL_isAhead_364 : decode cL_isAhead 364 = .ok (.iload 8, 2) := by decide +kernel
theorem dL_isAhead_366 : decode cL_isAhead 366 = .ok (.invokevirtual 65, 3) := by decide +kernel
theorem dL_isAhead_369 : decode cL_isAhead 369 = .ok (.iload 5, 2) := by decide +kernel
theorem dL_isAhead_371 : decode cL_isAhead 371 = .ok (.iconst 1, 1) := by decide +kernel
theorem dL_isAhead_372 : decode cL_isAhead 372 = .ok (.iadd, 1) := by decide +kernel
theorem dL_isAhead_373 : decode cL_isAhead 373 = .ok (.if_icmp .ne 24, 3) := by decide +kernel
theorem dL_isAhead_376 : decode cL_isAhead 376 = .ok (.aload_n 0, 1) := by decide +kernel
theorem dL_isAhead_377 : decode cL_isAhead 377 = .ok (.iload 5, 2) := by decide +kernel
theorem dL_isAhead_379 : decode cL_isAhead 379 = .ok (.iconst 3, 1) := by decide +kernel
theorem dL_isAhead_380 : decode cL_isAhead 380 = .ok (.invokevirtual 19, 3) := by decide +kernel
theorem dL_isAhead_383 : decode cL_isAhead 383 = .ok (.ifCond .ne 14, 3) := by decide +kernel
theorem dL_isAhead_386 : decode cL_isAhead 386 = .ok (.aload_n 0, 1) := by decide +kernel
theorem dL_isAhead_387 : decode cL_isAhead 387 = .ok (.invokevirtual 85, 3) := by decide +kernel
theorem dL_isAhead_390 : decode cL_isAhead 390 = .ok (.ifCond .lt 7, 3) := by decide +kernel
theorem dL_isAhead_393 : decode cL_isAhead 393 = .ok (.iconst 1, 1) := by decide +kernel
theorem dL_isAhead_394 : decode cL_isAhead 394 = .ok (.goto 4, 3) := by decide +kernel
theorem dL_isAhead_397 : decode cL_isAhead 397 = .ok (.iconst 0, 1) := by decide +kernel
theorem dL_isAhead_398 : decode cL_isAhead 398 = .ok (.istore 14, 2) := by decide +kernel
theorem dL_isAhead_400 : decode cL_isAhead 400 = .ok (.iload 14, 2) := by decide +kernel
theorem dL_isAhead_402 : decode cL_isAhead 402 = .ok (.ifCond .eq 11, 3) := by decide +kernel
theorem dL_isAhead_405 : decode cL_isAhead 405 = .ok (.aload_n 0, 1) := by decide +kernel
theorem dL_isAhead_406 : decode cL_isAhead 406 = .ok (.iload_n 1, 1) := by decide +kernel
theorem dL_isAhead_407 : decode cL_isAhead 407 = .ok (.invokevirtual 50, 3) := by decide +kernel
theorem dL_isAhead_410 : decode cL_isAhead 410 = .ok (.goto 4, 3) := by decide +kernel
theorem dL_isAhead_413 : decode cL_isAhead 413 = .ok (.iconst 0, 1) := by decide +kernel
theorem dL_isAhead_414 : decode cL_isAhead 414 = .ok (.istore 17, 2) := by decide +kernel
theorem dL_isAhead_416 : decode cL_isAhead 416 = .ok (.iload 14, 2) := by decide +kernel
theorem dL_isAhead_418 : decode cL_isAhead 418 = .ok (.ifCond .eq 40, 3) := by decide +kernel
theorem dL_isAhead_421 : decode cL_isAhead 421 = .ok (.iload 17, 2) := by decide +kernel
theorem dL_isAhead_423 : decode cL_isAhead 423 = .ok (.aload_n 0, 1) := by decide +kernel
theorem dL_isAhead_424 : decode cL_isAhead 424 = .ok (.iload_n 1, 1) := by decide +kernel
theorem dL_isAhead_425 : decode cL_isAhead 425 = .ok (.iconst 2, 1) := by decide +kernel
theorem dL_isAhead_426 : decode cL_isAhead 426 = .ok (.invokevirtual 19, 3) := by decide +kernel
theorem dL_isAhead_429 : decode cL_isAhead 429 = .ok (.if_icmp .ne 29, 3) := by decide +kernel
theorem dL_isAhead_432 : decode cL_isAhead 432 = .ok (.iload 17, 2) := by decide +kernel
theorem dL_isAhead_434 : decode cL_isAhead 434 = .ok (.ifCond .lt 24, 3) := by decide +kernel
theorem dL_isAhead_437 : decode cL_isAhead 437 = .ok (.iload 17, 2) := by decide +kernel
theorem dL_isAhead_439 : decode cL_isAhead 439 = .ok (.aload_n 0, 1) := by decide +kernel
theorem dL_isAhead_440 : decode cL_isAhead 440 = .ok (.iconst 1, 1) := by decide +kernel
theorem dL_isAhead_441 : decode cL_isAhead 441 = .ok (.invokevirtual 26, 3) := by decide +kernel
theorem dL_isAhead_444 : decode cL_isAhead 444 = .ok (.if_icmp .ge 14, 3) := by decide +kernel
theorem dL_isAhead_447 : decode cL_isAhead 447 = .ok (.aload_n 0, 1) := by decide +kernel
theorem dL_isAhead_448 : decode cL_isAhead 448 = .ok (.invokevirtual 85, 3) := by decide +kernel
theorem dL_isAhead_451 : decode cL_isAhead 451 = .ok (.ifCond .lt 7, 3) := by decide +kernel
theorem dL_isAhead_454 : decode cL_isAhead 454 = .ok (.iconst 1, 1) := by decide +kernel
theorem dL_isAhead_455 : decode cL_isAhead 455 = .ok (.goto 4, 3) := by decide +kernel
theorem dL_isAhead_458 : decode cL_isAhead 458 = .ok (.iconst 0, 1) := by decide +kernel
theorem dL_isAhead_459 : decode cL_isAhead 459 = .ok (.istore 14, 2) := by decide +kernel
theorem dL_isAhead_461 : decode cL_isAhead 461 = .ok (.iload 14, 2) := by decide +kernel
theorem dL_isAhead_463 : decode cL_isAhead 463 = .ok (.ifCond .eq 77, 3) := by decide +kernel
theorem dL_isAhead_466 : decode cL_isAhead 466 = .ok (.aload_n 0, 1) := by decide +kernel
theorem dL_isAhead_467 : decode cL_isAhead 467 = .ok (.iconst 2, 1) := by decide +kernel
theorem dL_isAhead_468 : decode cL_isAhead 468 = .ok (.invokevirtual 13, 3) := by decide +kernel
theorem dL_isAhead_471 : decode cL_isAhead 471 = .ok (.ifCond .ne 69, 3) := by decide +kernel
theorem dL_isAhead_474 : decode cL_isAhead 474 = .ok (.aload_n 0, 1) := by decide +kernel
theorem dL_isAhead_475 : decode cL_isAhead 475 = .ok (.bipush 12, 2) := by decide +kernel
theorem dL_isAhead_477 : decode cL_isAhead 477 = .ok (.invokevirtual 13, 3) := by decide +kernel
theorem dL_isAhead_480 : decode cL_isAhead 480 = .ok (.istore 18, 2) := by decide +kernel
theorem dL_isAhead_482 : decode cL_isAhead 482 = .ok (.aload_n 0, 1) := by decide +kernel
theorem dL_isAhead_483 : decode cL_isAhead 483 = .ok (.bipush 13, 2) := by decide +kernel
theorem dL_isAhead_485 : decode cL_isAhead 485 = .ok (.invokevirtual 13, 3) := by decide +kernel
theorem dL_isAhead_488 : decode cL_isAhead 488 = .ok (.istore 19, 2) := by decide +kernel
theorem dL_isAhead_490 : decode cL_isAhead 490 = .ok (.aload_n 0, 1) := by decide +kernel
theorem dL_isAhead_491 : decode cL_isAhead 491 = .ok (.invokevirtual 56, 3) := by decide +kernel
theorem dL_isAhead_494 : decode cL_isAhead 494 = .ok (.iload 18, 2) := by decide +kernel
theorem dL_isAhead_496 : decode cL_isAhead 496 = .ok (.iconst 1, 1) := by decide +kernel
theorem dL_isAhead_497 : decode cL_isAhead 497 = .ok (.iadd, 1) := by decide +kernel
theorem dL_isAhead_498 : decode cL_isAhead 498 = .ok (.if_icmp .ne 39, 3) := by decide +kernel
theorem dL_isAhead_501 : decode cL_isAhead 501 = .ok (.aload_n 0, 1) := by decide +kernel
theorem dL_isAhead_502 : decode cL_isAhead 502 = .ok (.iconst 0, 1) := by decide +kernel
theorem dL_isAhead_503 : decode cL_isAhead 503 = .ok (.invokevirtual 13, 3) := by decide +kernel
theorem dL_isAhead_506 : decode cL_isAhead 506 = .ok (.ifCond .ne 31, 3) := by decide +kernel
theorem dL_isAhead_509 : decode cL_isAhead 509 = .ok (.aload_n 0, 1) := by decide +kernel
theorem dL_isAhead_510 : decode cL_isAhead 510 = .ok (.bipush 13, 2) := by decide +kernel
theorem dL_isAhead_512 : decode cL_isAhead 512 = .ok (.invokevirtual 13, 3) := by decide +kernel
theorem dL_isAhead_515 : decode cL_isAhead 515 = .ok (.iload 19, 2) := by decide +kernel
theorem dL_isAhead_517 : decode cL_isAhead 517 = .ok (.aload_n 0, 1) := by decide +kernel
theorem dL_isAhead_518 : decode cL_isAhead 518 = .ok (.iconst 0, 1) := by decide +kernel
theorem dL_isAhead_519 : decode cL_isAhead 519 = .ok (.invokevirtual 26, 3) := by decide +kernel
theorem dL_isAhead_522 : decode cL_isAhead 522 = .ok (.iadd, 1) := by decide +kernel
theorem dL_isAhead_523 : decode cL_isAhead 523 = .ok (.if_icmp .ne 14, 3) := by decide +kernel
theorem dL_isAhead_526 : decode cL_isAhead 526 = .ok (.aload_n 0, 1) := by decide +kernel
theorem dL_isAhead_527 : decode cL_isAhead 527 = .ok (.invokevirtual 85, 3) := by decide +kernel
theorem dL_isAhead_530 : decode cL_isAhead 530 = .ok (.ifCond .lt 7, 3) := by decide +kernel
theorem dL_isAhead_533 : decode cL_isAhead 533 = .ok (.iconst 1, 1) := by decide +kernel
theorem dL_isAhead_534 : decode cL_isAhead 534 = .ok (.goto 4, 3) := by decide +kernel
theorem dL_isAhead_537 : decode cL_isAhead 537 = .ok (.iconst 0, 1) := by decide +kernel
theorem dL_isAhead_538 : decode cL_isAhead 538 = .ok (.istore 14, 2) := by decide +kernel
theorem dL_isAhead_540 : decode cL_isAhead 540 = .ok (.iload 14, 2) := by decide +kernel
theorem dL_isAhead_542 : decode cL_isAhead 542 = .ok (.ifCond .eq 16, 3) := by decide +kernel
theorem dL_isAhead_545 : decode cL_isAhead 545 = .ok (.aload_n 0, 1) := by decide +kernel
theorem dL_isAhead_546 : decode cL_isAhead 546 = .ok (.invokestatic 75, 3) := by decide +kernel
theorem dL_isAhead_549 : decode cL_isAhead 549 = .ok (.lload_n 3, 1) := by decide +kernel
theorem dL_isAhead_550 : decode cL_isAhead 550 = .ok (.lcmp, 1) := by decide +kernel
theorem dL_isAhead_551 : decode cL_isAhead 551 = .ok (.ifCond .ne 7, 3) := by decide +kernel
theorem dL_isAhead_554 : decode cL_isAhead 554 = .ok (.iconst 1, 1) := by decide +kernel
theorem dL_isAhead_555 : decode cL_isAhead 555 = .ok (.goto 4, 3) := by decide +kernel
theorem dL_isAhead_558 : decode cL_isAhead 558 = .ok (.iconst 0, 1) := by decide +kernel
theorem dL_isAhead_559 : decode cL_isAhead 559 = .ok (.ireturn, 1) := by decide +kernel
theorem dL_law_0 : decode cL_law 0 = .ok (.new 14, 3) := by decide +kernel
theorem dL_law_3 : decode cL_law 3 = .ok (.dup, 1) := by decide +kernel
theorem dL_law_4 : decode cL_law 4 = .ok (.invokespecial 88, 3) := by decide +kernel
theorem dL_law_7 : decode cL_law 7 = .ok (.astore_n 1, 1) := by decide +kernel
theorem dL_law_8 : decode cL_law 8 = .ok (.aload_n 1, 1) := by decide +kernel
theorem dL_law_9 : decode cL_law 9 = .ok (.invokevirtual 89, 3) := by decide +kernel
theorem dL_law_12 : decode cL_law 12 = .ok (.ifCond .ne 14, 3) := by decide +kernel
theorem dL_law_15 : decode cL_law 15 = .ok (.aload_n 1, 1) := by decide +kernel
theorem dL_law_16 : decode cL_law 16 = .ok (.invokestatic 92, 3) := by decide +kernel
theorem dL_law_19 : decode cL_law 19 = .ok (.ifCond .eq 7, 3) := by decide +kernel
theorem dL_law_22 : decode cL_law 22 = .ok (.iconst 1, 1) := by decide +kernel
theorem dL_law_23 : decode cL_law 23 = .ok (.goto 4, 3) := by decide +kernel
theorem dL_law_26 : decode cL_law 26 = .ok (.iconst 0, 1) := by decide +kernel
theorem dL_law_27 : decode cL_law 27 = .ok (.istore_n 2, 1) := by decide +kernel
theorem dL_law_28 : decode cL_law 28 = .ok (.iconst 0, 1) := by decide +kernel
theorem dL_law_29 : decode cL_law 29 = .ok (.istore_n 3, 1) := by decide +kernel
theorem dL_law_30 : decode cL_law 30 = .ok (.iload_n 3, 1) := by decide +kernel
theorem dL_law_31 : decode cL_law 31 = .ok (.bipush 60, 2) := by decide +kernel
theorem dL_law_33 : decode cL_law 33 = .ok (.if_icmp .ge 250, 3) := by decide +kernel
theorem dL_law_36 : decode cL_law 36 = .ok (.iload_n 2, 1) := by decide +kernel
theorem dL_law_37 : decode cL_law 37 = .ok (.ifCond .eq 246, 3) := by decide +kernel
theorem dL_law_40 : decode cL_law 40 = .ok (.aload_n 0, 1) := by decide +kernel
theorem dL_law_41 : decode cL_law 41 = .ok (.iconst 2, 1) := by decide +kernel
theorem dL_law_42 : decode cL_law 42 = .ok (.iload_n 3, 1) := by decide +kernel
theorem dL_law_43 : decode cL_law 43 = .ok (.imul, 1) := by decide +kernel
theorem dL_law_44 : decode cL_law 44 = .ok (.invokestatic 96, 3) := by decide +kernel
theorem dL_law_47 : decode cL_law 47 = .ok (.istore 4, 2) := by decide +kernel
theorem dL_law_49 : decode cL_law 49 = .ok (.aload_n 0, 1) := by decide +kernel
theorem dL_law_50 : decode cL_law 50 = .ok (.iconst 2, 1) := by decide +kernel
theorem dL_law_51 : decode cL_law 51 = .ok (.iload_n 3, 1) := by decide +kernel
theorem dL_law_52 : decode cL_law 52 = .ok (.imul, 1) := by decide +kernel
theorem dL_law_53 : decode cL_law 53 = .ok (.iconst 1, 1) := by decide +kernel
theorem dL_law_54 : decode cL_law 54 = .ok (.iadd, 1) := by decide +kernel
theorem dL_law_55 : decode cL_law 55 = .ok (.invokestatic 96, 3) := by decide +kernel
theorem dL_law_58 : decode cL_law 58 = .ok (.istore 5, 2) := by decide +kernel
theorem dL_law_60 : decode cL_law 60 = .ok (.aload_n 1, 1) := by decide +kernel
theorem dL_law_61 : decode cL_law 61 = .ok (.invokestatic 75, 3) := by decide +kernel
theorem dL_law_64 : decode cL_law 64 = .ok (.lstore 6, 2) := by decide +kernel
theorem dL_law_66 : decode cL_law 66 = .ok (.aload_n 1, 1) := by decide +kernel
theorem dL_law_67 : decode cL_law 67 = .ok (.bipush 15, 2) := by decide +kernel
theorem dL_law_69 : decode cL_law 69 = .ok (.invokevirtual 13, 3) := by decide +kernel
theorem dL_law_72 : decode cL_law 72 = .ok (.istore 8, 2) := by decide +kernel
theorem dL_law_74 : decode cL_law 74 = .ok (.aload_n 1, 1) := by decide +kernel
theorem dL_law_75 : decode cL_law 75 = .ok (.iload 4, 2) := by decide +kernel
theorem dL_law_77 : decode cL_law 77 = .ok (.iload 5, 2) := by decide +kernel
theorem dL_law_79 : decode cL_law 79 = .ok (.invokestatic 100, 3) := by decide +kernel
theorem dL_law_82 : decode cL_law 82 = .ok (.istore 9, 2) := by decide +kernel
theorem dL_law_84 : decode cL_law 84 = .ok (.iload 9, 2) := by decide +kernel
theorem dL_law_86 : decode cL_law 86 = .ok (.ifCond .lt 32, 3) := by decide +kernel
theorem dL_law_89 : decode cL_law 89 = .ok (.aload_n 1, 1) := by decide +kernel
theorem dL_law_90 : decode cL_law 90 = .ok (.bipush 15, 2) := by decide +kernel
theorem dL_law_92 : decode cL_law 92 = .ok (.invokevirtual 13, 3) := by decide +kernel
theorem dL_law_95 : decode cL_law 95 = .ok (.iload 8, 2) := by decide +kernel
theorem dL_law_97 : decode cL_law 97 = .ok (.bipush 6, 2) := by decide +kernel
theorem dL_law_99 : decode cL_law 99 = .ok (.if_icmp .ge 10, 3) := by decide +kernel
theorem dL_law_102 : decode cL_law 102 = .ok (.iload 8, 2) := by decide +kernel
theorem dL_law_104 : decode cL_law 104 = .ok (.iconst 1, 1) := by decide +kernel
theorem dL_law_105 : decode cL_law 105 = .ok (.iadd, 1) := by decide +kernel
theorem dL_law_106 : decode cL_law 106 = .ok (.goto 5, 3) := by decide +kernel
theorem dL_law_109 : decode cL_law 109 = .ok (.bipush 6, 2) := by decide +kernel
theorem dL_law_111 : decode cL_law 111 = .ok (.if_icmp .ne 7, 3) := by decide +kernel
theorem dL_law_114 : decode cL_law 114 = .ok (.iconst 1, 1) := by decide +kernel
theorem dL_law_115 : decode cL_law 115 = .ok (.goto 4, 3) := by decide +kernel
theorem dL_law_118 : decode cL_law 118 = .ok (.iconst 0, 1) := by decide +kernel
theorem dL_law_119 : decode cL_law 119 = .ok (.istore_n 2, 1) := by decide +kernel
theorem dL_law_120 : decode cL_law 120 = .ok (.iload_n 2, 1) := by decide +kernel
theorem dL_law_121 : decode cL_law 121 = .ok (.ifCond .eq 77, 3) := by decide +kernel
theorem dL_law_124 : decode cL_law 124 = .ok (.iload 4, 2) := by decide +kernel
theorem dL_law_126 : decode cL_law 126 = .ok (.bipush 8, 2) := by decide +kernel
theorem dL_law_128 : decode cL_law 128 = .ok (.ishr, 1) := by decide +kernel
theorem dL_law_129 : decode cL_law 129 = .ok (.iconst 3, 1) := by decide +kernel
theorem dL_law_130 : decode cL_law 130 = .ok (.iand, 1) := by decide +kernel
theorem dL_law_131 : decode cL_law 131 = .ok (.ifCond .ne 67, 3) := by decide +kernel
theorem dL_law_134 : decode cL_law 134 = .ok (.aload_n 1, 1) := by decide +kernel
theorem dL_law_135 : decode cL_law 135 = .ok (.invokestatic 75, 3) := by decide +kernel
theorem dL_law_138 : decode cL_law 138 = .ok (.lstore 10, 2) := by decide +kernel
theorem dL_law_140 : decode cL_law 140 = .ok (.aload_n 1, 1) := by decide +kernel
theorem dL_law_141 : decode cL_law 141 = .ok (.bipush 15, 2) := by decide +kernel
theorem dL_law_143 : decode cL_law 143 = .ok (.invokevirtual 13, 3) := by decide +kernel
theorem dL_law_146 : decode cL_law 146 = .ok (.iconst 1, 1) := by decide +kernel
theorem dL_law_147 : decode cL_law 147 = .ok (.isub, 1) := by decide +kernel
theorem dL_law_148 : decode cL_law 148 = .ok (.istore 12, 2) := by decide +kernel
theorem dL_law_150 : decode cL_law 150 = .ok (.aload_n 1, 1) := by decide +kernel
theorem dL_law_151 : decode cL_law 151 = .ok (.invokevirtual 85, 3) := by decide +kernel
theorem dL_law_154 : decode cL_law 154 = .ok (.iload 12, 2) := by decide +kernel
theorem dL_law_156 : decode cL_law 156 = .ok (.if_icmp .ne 40, 3) := by decide +kernel
theorem dL_law_159 : decode cL_law 159 = .ok (.aload_n 1, 1) := by decide +kernel
theorem dL_law_160 : decode cL_law 160 = .ok (.invokestatic 75, 3) := by decide +kernel
theorem dL_law_163 : decode cL_law 163 = .ok (.lload 6, 2) := by decide +kernel
theorem dL_law_165 : decode cL_law 165 = .ok (.lcmp, 1) := by decide +kernel
theorem dL_law_166 : decode cL_law 166 = .ok (.ifCond .ne 30, 3) := by decide +kernel
theorem dL_law_169 : decode cL_law 169 = .ok (.aload_n 1, 1) := by decide +kernel
theorem dL_law_170 : decode cL_law 170 = .ok (.iload 4, 2) := by decide +kernel
theorem dL_law_172 : decode cL_law 172 = .ok (.iload 5, 2) := by decide +kernel
theorem dL_law_174 : decode cL_law 174 = .ok (.invokestatic 100, 3) := by decide +kernel
theorem dL_law_177 : decode cL_law 177 = .ok (.iload 9, 2) := by decide +kernel
theorem dL_law_179 : decode cL_law 179 = .ok (.if_icmp .ne 17, 3) := by decide +kernel
theorem dL_law_182 : decode cL_law 182 = .ok (.aload_n 1, 1) := by decide +kernel
theorem dL_law_183 : decode cL_law 183 = .ok (.invokestatic 75, 3) := by decide +kernel
theorem dL_law_186 : decode cL_law 186 = .ok (.lload 10, 2) := by decide +kernel
theorem dL_law_188 : decode cL_law 188 = .ok (.lcmp, 1) := by decide +kernel
theorem dL_law_189 : decode cL_law 189 = .ok (.ifCond .ne 7, 3) := by decide +kernel
theorem dL_law_192 : decode cL_law 192 = .ok (.iconst 1, 1) := by decide +kernel
theorem dL_law_193 : decode cL_law 193 = .ok (.goto 4, 3) := by decide +kernel
theorem dL_law_196 : decode cL_law 196 = .ok (.iconst 0, 1) := by decide +kernel
theorem dL_law_197 : decode cL_law 197 = .ok (.istore_n 2, 1) := by decide +kernel
theorem dL_law_198 : decode cL_law 198 = .ok (.aload_n 1, 1) := by decide +kernel
theorem dL_law_199 : decode cL_law 199 = .ok (.iconst 0, 1) := by decide +kernel
theorem dL_law_200 : decode cL_law 200 = .ok (.invokevirtual 13, 3) := by decide +kernel
theorem dL_law_203 : decode cL_law 203 = .ok (.istore 10, 2) := by decide +kernel
theorem dL_law_205 : decode cL_law 205 = .ok (.iload_n 2, 1) := by decide +kernel
theorem dL_law_206 : decode cL_law 206 = .ok (.ifCond .eq 69, 3) := by decide +kernel
theorem dL_law_209 : decode cL_law 209 = .ok (.aload_n 1, 1) := by decide +kernel
theorem dL_law_210 : decode cL_law 210 = .ok (.invokestatic 92, 3) := by decide +kernel
theorem dL_law_213 : decode cL_law 213 = .ok (.ifCond .eq 62, 3) := by decide +kernel
theorem dL_law_216 : decode cL_law 216 = .ok (.iload_n 3, 1) := by decide +kernel
theorem dL_law_217 : decode cL_law 217 = .ok (.iconst 3, 1) := by decide +kernel
theorem dL_law_218 : decode cL_law 218 = .ok (.irem, 1) := by decide +kernel
theorem dL_law_219 : decode cL_law 219 = .ok (.iconst 1, 1) := by decide +kernel
theorem dL_law_220 : decode cL_law 220 = .ok (.if_icmp .ne 33, 3) := by decide +kernel
theorem dL_law_223 : decode cL_law 223 = .ok (.iload 10, 2) := by decide +kernel
theorem dL_law_225 : decode cL_law 225 = .ok (.ifCond .eq 28, 3) := by decide +kernel
theorem dL_law_228 : decode cL_law 228 = .ok (.aload_n 1, 1) := by decide +kernel
theorem dL_law_229 : decode cL_law 229 = .ok (.iload 4, 2) := by decide +kernel
theorem dL_law_231 : decode cL_law 231 = .ok (.iconst 5, 1) := by decide +kernel
theorem dL_law_232 : decode cL_law 232 = .ok (.ishr, 1) := by decide +kernel
theorem dL_law_233 : decode cL_law 233 = .ok (.iload 10, 2) := by decide +kernel
theorem dL_law_235 : decode cL_law 235 = .ok (.invokestatic 29, 3) := by decide +kernel
theorem dL_law_238 : decode cL_law 238 = .ok (.iload 5, 2) := by decide +kernel
theorem dL_law_240 : decode cL_law 240 = .ok (.iconst 5, 1) := by decide +kernel
theorem dL_law_241 : decode cL_law 241 = .ok (.ishr, 1) := by decide +kernel
theorem dL_law_242 : decode cL_law 242 = .ok (.iload 10, 2) := by decide +kernel
theorem dL_law_244 : decode cL_law 244 = .ok (.invokestatic 29, 3) := by decide +kernel
theorem dL_law_247 : decode cL_law 247 = .ok (.invokestatic 104, 3) := by decide +kernel
theorem dL_law_250 : decode cL_law 250 = .ok (.ifCond .eq 25, 3) := by decide +kernel
theorem dL_law_253 : decode cL_law 253 = .ok (.iload_n 3, 1) := by decide +kernel
theorem dL_law_254 : decode cL_law 254 = .ok (.bipush 23, 2) := by decide +kernel
theorem dL_law_256 : decode cL_law 256 = .ok (.irem, 1) := by decide +kernel
theorem dL_law_257 : decode cL_law 257 = .ok (.bipush 14, 2) := by decide +kernel
theorem dL_law_259 : decode cL_law 259 = .ok (.if_icmp .ne 12, 3) := by decide +kernel
theorem dL_law_262 : decode cL_law 262 = .ok (.aload_n 1, 1) := by decide +kernel
theorem dL_law_263 : decode cL_law 263 = .ok (.invokevirtual 89, 3) := by decide +kernel
theorem dL_law_266 : decode cL_law 266 = .ok (.iload 10, 2) := by decide +kernel
theorem dL_law_268 : decode cL_law 268 = .ok (.if_icmp .ne 7, 3) := by decide +kernel
theorem dL_law_271 : decode cL_law 271 = .ok (.iconst 1, 1) := by decide +kernel
theorem dL_law_272 : decode cL_law 272 = .ok (.goto 4, 3) := by decide +kernel
theorem dL_law_275 : decode cL_law 275 = .ok (.iconst 0, 1) := by decide +kernel
theorem dL_law_276 : decode cL_law 276 = .ok (.istore_n 2, 1) := by decide +kernel
theorem dL_law_277 : decode cL_law 277 = .ok (.iinc 3 1, 3) := by decide +kernel
theorem dL_law_280 : decode cL_law 280 = .ok (.goto (-250), 3) := by decide +kernel
theorem dL_law_283 : decode cL_law 283 = .ok (.iload_n 2, 1) := by decide +kernel
theorem dL_law_284 : decode cL_law 284 = .ok (.ireturn, 1) := by decide +kernel
