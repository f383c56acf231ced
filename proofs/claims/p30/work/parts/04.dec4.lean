theorem dL_act_0 : decode cL_act 0 = .ok (.aload_n 0, 1) := by decide +kernel
theorem dL_act_1 : decode cL_act 1 = .ok (.iconst 0, 1) := by decide +kernel
theorem dL_act_2 : decode cL_act 2 = .ok (.invokevirtual 13, 3) := by decide +kernel
theorem dL_act_5 : decode cL_act 5 = .ok (.istore_n 3, 1) := by decide +kernel
theorem dL_act_6 : decode cL_act 6 = .ok (.iload_n 2, 1) := by decide +kernel
theorem dL_act_7 : decode cL_act 7 = .ok (.iconst 3, 1) := by decide +kernel
theorem dL_act_8 : decode cL_act 8 = .ok (.iand, 1) := by decide +kernel
theorem dL_act_9 : decode cL_act 9 = .ok (.ifCond .ne 14, 3) := by decide +kernel
theorem dL_act_12 : decode cL_act 12 = .ok (.iload_n 2, 1) := by decide +kernel
theorem dL_act_13 : decode cL_act 13 = .ok (.iconst 2, 1) := by decide +kernel
theorem dL_act_14 : decode cL_act 14 = .ok (.ishr, 1) := by decide +kernel
theorem dL_act_15 : decode cL_act 15 = .ok (.bipush 16, 2) := by decide +kernel
theorem dL_act_17 : decode cL_act 17 = .ok (.invokestatic 29, 3) := by decide +kernel
theorem dL_act_20 : decode cL_act 20 = .ok (.goto 7, 3) := by decide +kernel
theorem dL_act_23 : decode cL_act 23 = .ok (.iload_n 3, 1) := by decide +kernel
theorem dL_act_24 : decode cL_act 24 = .ok (.bipush 16, 2) := by decide +kernel
theorem dL_act_26 : decode cL_act 26 = .ok (.irem, 1) := by decide +kernel
theorem dL_act_27 : decode cL_act 27 = .ok (.istore 4, 2) := by decide +kernel
theorem dL_act_29 : decode cL_act 29 = .ok (.iload_n 3, 1) := by decide +kernel
theorem dL_act_30 : decode cL_act 30 = .ok (.ifCond .ne 7, 3) := by decide +kernel
theorem dL_act_33 : decode cL_act 33 = .ok (.iconst 0, 1) := by decide +kernel
theorem dL_act_34 : decode cL_act 34 = .ok (.goto 11, 3) := by decide +kernel
theorem dL_act_37 : decode cL_act 37 = .ok (.iload_n 2, 1) := by decide +kernel
theorem dL_act_38 : decode cL_act 38 = .ok (.bipush 6, 2) := by decide +kernel
theorem dL_act_40 : decode cL_act 40 = .ok (.ishr, 1) := by decide +kernel
theorem dL_act_41 : decode cL_act 41 = .ok (.iload_n 3, 1) := by decide +kernel
theorem dL_act_42 : decode cL_act 42 = .ok (.invokestatic 29, 3) := by decide +kernel
theorem dL_act_45 : decode cL_act 45 = .ok (.istore 5, 2) := by decide +kernel
theorem dL_act_47 : decode cL_act 47 = .ok (.iload_n 3, 1) := by decide +kernel
theorem dL_act_48 : decode cL_act 48 = .ok (.ifCond .ne 7, 3) := by decide +kernel
theorem dL_act_51 : decode cL_act 51 = .ok (.iconst 0, 1) := by decide +kernel
theorem dL_act_52 : decode cL_act 52 = .ok (.goto 11, 3) := by decide +kernel
theorem dL_act_55 : decode cL_act 55 = .ok (.iload_n 2, 1) := by decide +kernel
theorem dL_act_56 : decode cL_act 56 = .ok (.bipush 11, 2) := by decide +kernel
theorem dL_act_58 : decode cL_act 58 = .ok (.ishr, 1) := by decide +kernel
theorem dL_act_59 : decode cL_act 59 = .ok (.iload_n 3, 1) := by decide +kernel
theorem dL_act_60 : decode cL_act 60 = .ok (.invokestatic 29, 3) := by decide +kernel
theorem dL_act_63 : decode cL_act 63 = .ok (.istore 6, 2) := by decide +kernel
theorem dL_act_65 : decode cL_act 65 = .ok (.aload_n 0, 1) := by decide +kernel
theorem dL_act_66 : decode cL_act 66 = .ok (.invokevirtual 34, 3) := by decide +kernel
theorem dL_act_69 : decode cL_act 69 = .ok (.istore 7, 2) := by decide +kernel
theorem dL_act_71 : decode cL_act 71 = .ok (.iload_n 1, 1) := by decide +kernel
theorem dL_act_72 : decode cL_act 72 = .ok (.bipush 20, 2) := by decide +kernel
theorem dL_act_74 : decode cL_act 74 = .ok (.invokestatic 29, 3) := by decide +kernel
theorem dL_act_77 : decode cL_act 77 = .ok (.tableswitch 339 0 13 #[71, 98, 112, 126, 147, 187, 187, 209, 231, 231, 255, 275, 311, 311], 71) := by decide +kernel
theorem dL_act_148 : decode cL_act 148 = .ok (.aload_n 0, 1) := by decide +kernel
theorem dL_act_149 : decode cL_act 149 = .ok (.iconst 0, 1) := by decide +kernel
theorem dL_act_150 : decode cL_act 150 = .ok (.iconst 1, 1) := by decide +kernel
theorem dL_act_151 : decode cL_act 151 = .ok (.iload_n 2, 1) := by decide +kernel
theorem dL_act_152 : decode cL_act 152 = .ok (.iload_n 2, 1) := by decide +kernel
theorem dL_act_153 : decode cL_act 153 = .ok (.bipush 8, 2) := by decide +kernel
theorem dL_act_155 : decode cL_act 155 = .ok (.ishr, 1) := by decide +kernel
theorem dL_act_156 : decode cL_act 156 = .ok (.iconst 3, 1) := by decide +kernel
theorem dL_act_157 : decode cL_act 157 = .ok (.iand, 1) := by decide +kernel
theorem dL_act_158 : decode cL_act 158 = .ok (.ifCond .le 7, 3) := by decide +kernel
theorem dL_act_161 : decode cL_act 161 = .ok (.iconst 5, 1) := by decide +kernel
theorem dL_act_162 : decode cL_act 162 = .ok (.goto 5, 3) := by decide +kernel
theorem dL_act_165 : decode cL_act 165 = .ok (.bipush 16, 2) := by decide +kernel
theorem dL_act_167 : decode cL_act 167 = .ok (.invokestatic 29, 3) := by decide +kernel
theorem dL_act_170 : decode cL_act 170 = .ok (.iadd, 1) := by decide +kernel
theorem dL_act_171 : decode cL_act 171 = .ok (.invokevirtual 38, 3) := by decide +kernel
theorem dL_act_174 : decode cL_act 174 = .ok (.ireturn, 1) := by decide +kernel
theorem dL_act_175 : decode cL_act 175 = .ok (.aload_n 0, 1) := by decide +kernel
theorem dL_act_176 : decode cL_act 176 = .ok (.iconst 1, 1) := by decide +kernel
theorem dL_act_177 : decode cL_act 177 = .ok (.iconst 2, 1) := by decide +kernel
theorem dL_act_178 : decode cL_act 178 = .ok (.iload_n 2, 1) := by decide +kernel
theorem dL_act_179 : decode cL_act 179 = .ok (.bipush 7, 2) := by decide +kernel
theorem dL_act_181 : decode cL_act 181 = .ok (.invokestatic 29, 3) := by decide +kernel
theorem dL_act_184 : decode cL_act 184 = .ok (.iadd, 1) := by decide +kernel
theorem dL_act_185 : decode cL_act 185 = .ok (.invokevirtual 38, 3) := by decide +kernel
theorem dL_act_188 : decode cL_act 188 = .ok (.ireturn, 1) := by decide +kernel
theorem dL_act_189 : decode cL_act 189 = .ok (.aload_n 0, 1) := by decide +kernel
theorem dL_act_190 : decode cL_act 190 = .ok (.iconst 2, 1) := by decide +kernel
theorem dL_act_191 : decode cL_act 191 = .ok (.iconst 1, 1) := by decide +kernel
theorem dL_act_192 : decode cL_act 192 = .ok (.iload_n 2, 1) := by decide +kernel
theorem dL_act_193 : decode cL_act 193 = .ok (.bipush 9, 2) := by decide +kernel
theorem dL_act_195 : decode cL_act 195 = .ok (.invokestatic 29, 3) := by decide +kernel
theorem dL_act_198 : decode cL_act 198 = .ok (.iadd, 1) := by decide +kernel
theorem dL_act_199 : decode cL_act 199 = .ok (.invokevirtual 38, 3) := by decide +kernel
theorem dL_act_202 : decode cL_act 202 = .ok (.ireturn, 1) := by decide +kernel
theorem dL_act_203 : decode cL_act 203 = .ok (.aload_n 0, 1) := by decide +kernel
theorem dL_act_204 : decode cL_act 204 = .ok (.iload_n 2, 1) := by decide +kernel
theorem dL_act_205 : decode cL_act 205 = .ok (.bipush 16, 2) := by decide +kernel
theorem dL_act_207 : decode cL_act 207 = .ok (.invokestatic 29, 3) := by decide +kernel
theorem dL_act_210 : decode cL_act 210 = .ok (.iconst 1, 1) := by decide +kernel
theorem dL_act_211 : decode cL_act 211 = .ok (.iload_n 2, 1) := by decide +kernel
theorem dL_act_212 : decode cL_act 212 = .ok (.iconst 4, 1) := by decide +kernel
theorem dL_act_213 : decode cL_act 213 = .ok (.ishr, 1) := by decide +kernel
theorem dL_act_214 : decode cL_act 214 = .ok (.bipush 31, 2) := by decide +kernel
theorem dL_act_216 : decode cL_act 216 = .ok (.invokestatic 29, 3) := by decide +kernel
theorem dL_act_219 : decode cL_act 219 = .ok (.iadd, 1) := by decide +kernel
theorem dL_act_220 : decode cL_act 220 = .ok (.invokevirtual 41, 3) := by decide +kernel
theorem dL_act_223 : decode cL_act 223 = .ok (.ireturn, 1) := by decide +kernel
theorem dL_act_224 : decode cL_act 224 = .ok (.aload_n 0, 1) := by decide +kernel
theorem dL_act_225 : decode cL_act 225 = .ok (.iload 4, 2) := by decide +kernel
theorem dL_act_227 : decode cL_act 227 = .ok (.iconst 0, 1) := by decide +kernel
theorem dL_act_228 : decode cL_act 228 = .ok (.invokevirtual 23, 3) := by decide +kernel
theorem dL_act_231 : decode cL_act 231 = .ok (.bipush 80, 2) := by decide +kernel
theorem dL_act_233 : decode cL_act 233 = .ok (.if_icmp .ge 22, 3) := by decide +kernel
theorem dL_act_236 : decode cL_act 236 = .ok (.aload_n 0, 1) := by decide +kernel
theorem dL_act_237 : decode cL_act 237 = .ok (.iload 4, 2) := by decide +kernel
theorem dL_act_239 : decode cL_act 239 = .ok (.iconst 1, 1) := by decide +kernel
theorem dL_act_240 : decode cL_act 240 = .ok (.iload_n 2, 1) := by decide +kernel
theorem dL_act_241 : decode cL_act 241 = .ok (.bipush 6, 2) := by decide +kernel
theorem dL_act_243 : decode cL_act 243 = .ok (.ishr, 1) := by decide +kernel
theorem dL_act_244 : decode cL_act 244 = .ok (.iconst 4, 1) := by decide +kernel
theorem dL_act_245 : decode cL_act 245 = .ok (.invokestatic 29, 3) := by decide +kernel
theorem dL_act_248 : decode cL_act 248 = .ok (.iadd, 1) := by decide +kernel
theorem dL_act_249 : decode cL_act 249 = .ok (.invokevirtual 44, 3) := by decide +kernel
theorem dL_act_252 : decode cL_act 252 = .ok (.goto 11, 3) := by decide +kernel
theorem dL_act_255 : decode cL_act 255 = .ok (.aload_n 0, 1) := by decide +kernel
theorem dL_act_256 : decode cL_act 256 = .ok (.iload 4, 2) := by decide +kernel
theorem dL_act_258 : decode cL_act 258 = .ok (.bipush 31, 2) := by decide +kernel
theorem dL_act_260 : decode cL_act 260 = .ok (.invokevirtual 41, 3) := by decide +kernel
theorem dL_act_263 : decode cL_act 263 = .ok (.ireturn, 1) := by decide +kernel
theorem dL_act_264 : decode cL_act 264 = .ok (.iload_n 3, 1) := by decide +kernel
theorem dL_act_265 : decode cL_act 265 = .ok (.ifCond .le 12, 3) := by decide +kernel
theorem dL_act_268 : decode cL_act 268 = .ok (.aload_n 0, 1) := by decide +kernel
theorem dL_act_269 : decode cL_act 269 = .ok (.iload 5, 2) := by decide +kernel
theorem dL_act_271 : decode cL_act 271 = .ok (.invokevirtual 47, 3) := by decide +kernel
theorem dL_act_274 : decode cL_act 274 = .ok (.goto 11, 3) := by decide +kernel
theorem dL_act_277 : decode cL_act 277 = .ok (.aload_n 0, 1) := by decide +kernel
theorem dL_act_278 : decode cL_act 278 = .ok (.iload 4, 2) := by decide +kernel
theorem dL_act_280 : decode cL_act 280 = .ok (.bipush 31, 2) := by decide +kernel
theorem dL_act_282 : decode cL_act 282 = .ok (.invokevirtual 41, 3) := by decide +kernel
theorem dL_act_285 : decode cL_act 285 = .ok (.ireturn, 1) := by decide +kernel
theorem dL_act_286 : decode cL_act 286 = .ok (.iload_n 3, 1) := by decide +kernel
theorem dL_act_287 : decode cL_act 287 = .ok (.ifCond .le 12, 3) := by decide +kernel
theorem dL_act_290 : decode cL_act 290 = .ok (.aload_n 0, 1) := by decide +kernel
theorem dL_act_291 : decode cL_act 291 = .ok (.iload 5, 2) := by decide +kernel
theorem dL_act_293 : decode cL_act 293 = .ok (.invokevirtual 50, 3) := by decide +kernel
theorem dL_act_296 : decode cL_act 296 = .ok (.goto 11, 3) := by decide +kernel
theorem dL_act_299 : decode cL_act 299 = .ok (.aload_n 0, 1) := by decide +kernel
theorem dL_act_300 : decode cL_act 300 = .ok (.iload 4, 2) := by decide +kernel
theorem dL_act_302 : decode cL_act 302 = .ok (.bipush 31, 2) := by decide +kernel
theorem dL_act_304 : decode cL_act 304 = .ok (.invokevirtual 41, 3) := by decide +kernel
theorem dL_act_307 : decode cL_act 307 = .ok (.ireturn, 1) := by decide +kernel
theorem dL_act_308 : decode cL_act 308 = .ok (.iload_n 3, 1) := by decide +kernel
theorem dL_act_309 : decode cL_act 309 = .ok (.ifCond .le 14, 3) := by decide +kernel
theorem dL_act_312 : decode cL_act 312 = .ok (.aload_n 0, 1) := by decide +kernel
theorem dL_act_313 : decode cL_act 313 = .ok (.iload 5, 2) := by decide +kernel
theorem dL_act_315 : decode cL_act 315 = .ok (.iload 6, 2) := by decide +kernel
theorem dL_act_317 : decode cL_act 317 = .ok (.invokevirtual 53, 3) := by decide +kernel
theorem dL_act_320 : decode cL_act 320 = .ok (.goto 11, 3) := by decide +kernel
theorem dL_act_323 : decode cL_act 323 = .ok (.aload_n 0, 1) := by decide +kernel
theorem dL_act_324 : decode cL_act 324 = .ok (.iload 4, 2) := by decide +kernel
theorem dL_act_326 : decode cL_act 326 = .ok (.bipush 31, 2) := by decide +kernel
theorem dL_act_328 : decode cL_act 328 = .ok (.invokevirtual 41, 3) := by decide +kernel
theorem dL_act_331 : decode cL_act 331 = .ok (.ireturn, 1) := by decide +kernel
theorem dL_act_332 : decode cL_act 332 = .ok (.aload_n 0, 1) := by decide +kernel
theorem dL_act_333 : decode cL_act 333 = .ok (.iconst 2, 1) := by decide +kernel
theorem dL_act_334 : decode cL_act 334 = .ok (.invokevirtual 13, 3) := by decide +kernel
theorem dL_act_337 : decode cL_act 337 = .ok (.ifCond .ne 10, 3) := by decide +kernel
theorem dL_act_340 : decode cL_act 340 = .ok (.aload_n 0, 1) := by decide +kernel
theorem dL_act_341 : decode cL_act 341 = .ok (.invokevirtual 56, 3) := by decide +kernel
theorem dL_act_344 : decode cL_act 344 = .ok (.goto 7, 3) := by decide +kernel
theorem dL_act_347 : decode cL_act 347 = .ok (.aload_n 0, 1) := by decide +kernel
theorem dL_act_348 : decode cL_act 348 = .ok (.invokevirtual 59, 3) := by decide +kernel
theorem dL_act_351 : decode cL_act 351 = .ok (.ireturn, 1) := by decide +kernel
theorem dL_act_352 : decode cL_act 352 = .ok (.iload_n 3, 1) := by decide +kernel
theorem dL_act_353 : decode cL_act 353 = .ok (.bipush 20, 2) := by decide +kernel
theorem dL_act_355 : decode cL_act 355 = .ok (.if_icmp .ge 24, 3) := by decide +kernel
theorem dL_act_358 : decode cL_act 358 = .ok (.aload_n 0, 1) := by decide +kernel
theorem dL_act_359 : decode cL_act 359 = .ok (.iload 4, 2) := by decide +kernel
theorem dL_act_361 : decode cL_act 361 = .ok (.iconst 0, 1) := by decide +kernel
theorem dL_act_362 : decode cL_act 362 = .ok (.invokevirtual 23, 3) := by decide +kernel
theorem dL_act_365 : decode cL_act 365 = .ok (.ifCond .le 14, 3) := by decide +kernel
theorem dL_act_368 : decode cL_act 368 = .ok (.aload_n 0, 1) := by decide +kernel
theorem dL_act_369 : decode cL_act 369 = .ok (.iload 5, 2) := by decide +kernel
theorem dL_act_371 : decode cL_act 371 = .ok (.iload 4, 2) := by decide +kernel
theorem dL_act_373 : decode cL_act 373 = .ok (.invokevirtual 62, 3) := by decide +kernel
theorem dL_act_376 : decode cL_act 376 = .ok (.goto 11, 3) := by decide +kernel
theorem dL_act_379 : decode cL_act 379 = .ok (.aload_n 0, 1) := by decide +kernel
theorem dL_act_380 : decode cL_act 380 = .ok (.iload 4, 2) := by decide +kernel
theorem dL_act_382 : decode cL_act 382 = .ok (.bipush 31, 2) := by decide +kernel
theorem dL_act_384 : decode cL_act 384 = .ok (.invokevirtual 41, 3) := by decide +kernel
theorem dL_act_387 : decode cL_act 387 = .ok (.ireturn, 1) := by decide +kernel
theorem dL_act_388 : decode cL_act 388 = .ok (.iload 7, 2) := by decide +kernel
theorem dL_act_390 : decode cL_act 390 = .ok (.ifCond .lt 12, 3) := by decide +kernel
theorem dL_act_393 : decode cL_act 393 = .ok (.aload_n 0, 1) := by decide +kernel
theorem dL_act_394 : decode cL_act 394 = .ok (.iload 7, 2) := by decide +kernel
theorem dL_act_396 : decode cL_act 396 = .ok (.invokevirtual 65, 3) := by decide +kernel
theorem dL_act_399 : decode cL_act 399 = .ok (.goto 16, 3) := by decide +kernel
theorem dL_act_402 : decode cL_act 402 = .ok (.aload_n 0, 1) := by decide +kernel
theorem dL_act_403 : decode cL_act 403 = .ok (.iconst 0, 1) := by decide +kernel
theorem dL_act_404 : decode cL_act 404 = .ok (.iconst 1, 1) := by decide +kernel
theorem dL_act_405 : decode cL_act 405 = .ok (.iload_n 2, 1) := by decide +kernel
theorem dL_act_406 : decode cL_act 406 = .ok (.bipush 6, 2) := by decide +kernel
theorem dL_act_408 : decode cL_act 408 = .ok (.invokestatic 29, 3) := by decide +kernel
theorem dL_act_411 : decode cL_act 411 = .ok (.iadd, 1) := by decide +kernel
theorem dL_act_412 : decode cL_act 412 = .ok (.invokevirtual 38, 3) := by decide +kernel
theorem dL_act_415 : decode cL_act 415 = .ok (.ireturn, 1) := by decide +kernel
theorem dL_act_416 : decode cL_act 416 = .ok (.iload_n 3, 1) := by decide +kernel
theorem dL_act_417 : decode cL_act 417 = .ok (.bipush 20, 2) := by decide +kernel
theorem dL_act_419 : decode cL_act 419 = .ok (.if_icmp .ge 22, 3) := by decide +kernel
theorem dL_act_422 : decode cL_act 422 = .ok (.aload_n 0, 1) := by decide +kernel
theorem dL_act_423 : decode cL_act 423 = .ok (.iload 4, 2) := by decide +kernel
theorem dL_act_425 : decode cL_act 425 = .ok (.iconst 0, 1) := by decide +kernel
theorem dL_act_426 : decode cL_act 426 = .ok (.invokevirtual 23, 3) := by decide +kernel
theorem dL_act_429 : decode cL_act 429 = .ok (.ifCond .le 12, 3) := by decide +kernel
theorem dL_act_432 : decode cL_act 432 = .ok (.aload_n 0, 1) := by decide +kernel
theorem dL_act_433 : decode cL_act 433 = .ok (.iload 4, 2) := by decide +kernel
theorem dL_act_435 : decode cL_act 435 = .ok (.invokevirtual 65, 3) := by decide +kernel
theorem dL_act_438 : decode cL_act 438 = .ok (.goto 24, 3) := by decide +kernel
theorem dL_act_441 : decode cL_act 441 = .ok (.iload_n 3, 1) := by decide +kernel
theorem dL_act_442 : decode cL_act 442 = .ok (.ifCond .le 12, 3) := by decide +kernel
theorem dL_act_445 : decode cL_act 445 = .ok (.aload_n 0, 1) := by decide +kernel
theorem dL_act_446 : decode cL_act 446 = .ok (.iload 5, 2) := by decide +kernel
theorem dL_act_448 : decode cL_act 448 = .ok (.invokevirtual 47, 3) := by decide +kernel
theorem dL_act_451 : decode cL_act 451 = .ok (.goto 11, 3) := by decide +kernel
theorem dL_act_454 : decode cL_act 454 = .ok (.aload_n 0, 1) := by decide +kernel
theorem dL_act_455 : decode cL_act 455 = .ok (.iload 4, 2) := by decide +kernel
theorem dL_act_457 : decode cL_act 457 = .ok (.bipush 31, 2) := by decide +kernel
theorem dL_act_459 : decode cL_act 459 = .ok (.invokevirtual 41, 3) := by decide +kernel
theorem dL_act_462 : decode cL_act 462 = .ok (.ireturn, 1) := by decide +kernel
theorem dL_holds_0 : decode cL_holds 0 = .ok (.aload_n 0, 1) := by decide +kernel
theorem dL_holds_1 : decode cL_holds 1 = .ok (.iconst 0, 1) := by decide +kernel
theorem dL_holds_2 : decode cL_holds 2 = .ok (.invokevirtual 13, 3) := by decide +kernel
theorem dL_holds_5 : decode cL_holds 5 = .ok (.istore_n 1, 1) := by decide +kernel
theorem dL_holds_6 : decode cL_holds 6 = .ok (.iconst 0, 1) := by decide +kernel
theorem dL_holds_7 : decode cL_holds 7 = .ok (.istore_n 2, 1) := by decide +kernel
theorem dL_holds_8 : decode cL_holds 8 = .ok (.iconst 0, 1) := by decide +kernel
theorem dL_holds_9 : decode cL_holds 9 = .ok (.istore_n 3, 1) := by decide +kernel
theorem dL_holds_10 : decode cL_holds 10 = .ok (.iconst 0, 1) := by decide +kernel
theorem dL_holds_11 : decode cL_holds 11 = .ok (.istore 4, 2) := by decide +kernel
theorem dL_holds_13 : decode cL_holds 13 = .ok (.iconst 0, 1) := by decide +kernel
theorem dL_holds_14 : decode cL_holds 14 = .ok (.istore 5, 2) := by decide +kernel
theorem dL_holds_16 : decode cL_holds 16 = .ok (.iconst 0, 1) := by decide +kernel
theorem dL_holds_17 : decode cL_holds 17 = .ok (.istore 6, 2) := by decide +kernel
theorem dL_holds_19 : decode cL_holds 19 = .ok (.iconst 0, 1) := by decide +kernel
theorem dL_holds_20 : decode cL_holds 20 = .ok (.istore 7, 2) := by decide +kernel
theorem dL_holds_22 : decode cL_holds 22 = .ok (.iconst (-1), 1) := by decide +kernel
theorem dL_holds_23 : decode cL_holds 23 = .ok (.istore 8, 2) := by decide +kernel
theorem dL_holds_25 : decode cL_holds 25 = .ok (.iload_n 1, 1) := by decide +kernel
theorem dL_holds_26 : decode cL_holds 26 = .ok (.ifCond .lt 13, 3) := by decide +kernel
theorem dL_holds_29 : decode cL_holds 29 = .ok (.iload_n 1, 1) := by decide +kernel
theorem dL_holds_30 : decode cL_holds 30 = .ok (.bipush 20, 2) := by decide +kernel
theorem dL_holds_32 : decode cL_holds 32 = .ok (.if_icmp .gt 7, 3) := by decide +kernel
theorem dL_holds_35 : decode cL_holds 35 = .ok (.iconst 1, 1) := by decide +kernel
theorem dL_holds_36 : decode cL_holds 36 = .ok (.goto 4, 3) := by decide +kernel
theorem dL_holds_39 : decode cL_holds 39 = .ok (.iconst 0, 1) := by decide +kernel
theorem dL_holds_40 : decode cL_holds 40 = .ok (.istore 9, 2) := by decide +kernel
theorem dL_holds_42 : decode cL_holds 42 = .ok (.iconst 0, 1) := by decide +kernel
theorem dL_holds_43 : decode cL_holds 43 = .ok (.istore 10, 2) := by decide +kernel
theorem dL_holds_45 : decode cL_holds 45 = .ok (.iload 10, 2) := by decide +kernel
theorem dL_holds_47 : decode cL_holds 47 = .ok (.iload_n 1, 1) := by decide +kernel
theorem dL_holds_48 : decode cL_holds 48 = .ok (.if_icmp .ge 193, 3) := by decide +kernel
theorem dL_holds_51 : decode cL_holds 51 = .ok (.aload_n 0, 1) := by decide +kernel
theorem dL_holds_52 : decode cL_holds 52 = .ok (.iload 10, 2) := by decide +kernel
theorem dL_holds_54 : decode cL_holds 54 = .ok (.iconst 0, 1) := by decide +kernel
theorem dL_holds_55 : decode cL_holds 55 = .ok (.invokevirtual 19, 3) := by decide +kernel
theorem dL_holds_58 : decode cL_holds 58 = .ok (.aload_n 0, 1) := by decide +kernel
theorem dL_holds_59 : decode cL_holds 59 = .ok (.iconst 1, 1) := by decide +kernel
theorem dL_holds_60 : decode cL_holds 60 = .ok (.invokevirtual 26, 3) := by decide +kernel
theorem dL_holds_63 : decode cL_holds 63 = .ok (.irem, 1) := by decide +kernel
theorem dL_holds_64 : decode cL_holds 64 = .ok (.istore 11, 2) := by decide +kernel
theorem dL_holds_66 : decode cL_holds 66 = .ok (.iload_n 2, 1) := by decide +kernel
theorem dL_holds_67 : decode cL_holds 67 = .ok (.aload_n 0, 1) := by decide +kernel
theorem dL_holds_68 : decode cL_holds 68 = .ok (.iload 10, 2) := by decide +kernel
theorem dL_holds_70 : decode cL_holds 70 = .ok (.iconst 3, 1) := by decide +kernel
theorem dL_holds_71 : decode cL_holds 71 = .ok (.invokevirtual 19, 3) := by decide +kernel
theorem dL_holds_74 : decode cL_holds 74 = .ok (.iadd, 1) := by decide +kernel
theorem dL_holds_75 : decode cL_holds 75 = .ok (.istore_n 2, 1) := by decide +kernel
theorem dL_holds_76 : decode cL_holds 76 = .ok (.iload 4, 2) := by decide +kernel
theorem dL_holds_78 : decode cL_holds 78 = .ok (.aload_n 0, 1) := by decide +kernel
theorem dL_holds_79 : decode cL_holds 79 = .ok (.iload 10, 2) := by decide +kernel
theorem dL_holds_81 : decode cL_holds 81 = .ok (.iconst 4, 1) := by decide +kernel
theorem dL_holds_82 : decode cL_holds 82 = .ok (.invokevirtual 19, 3) := by decide +kernel
theorem dL_holds_85 : decode cL_holds 85 = .ok (.iadd, 1) := by decide +kernel
theorem dL_holds_86 : decode cL_holds 86 = .ok (.istore 4, 2) := by decide +kernel
theorem dL_holds_88 : decode cL_holds 88 = .ok (.iload_n 3, 1) := by decide +kernel
theorem dL_holds_89 : decode cL_holds 89 = .ok (.aload_n 0, 1) := by decide +kernel
theorem dL_holds_90 : decode cL_holds 90 = .ok (.iload 10, 2) := by decide +kernel
theorem dL_holds_92 : decode cL_holds 92 = .ok (.iconst 5, 1) := by decide +kernel
theorem dL_holds_93 : decode cL_holds 93 = .ok (.invokevirtual 19, 3) := by decide +kernel
theorem dL_holds_96 : decode cL_holds 96 = .ok (.iadd, 1) := by decide +kernel
theorem dL_holds_97 : decode cL_holds 97 = .ok (.istore_n 3, 1) := by decide +kernel
theorem dL_holds_98 : decode cL_holds 98 = .ok (.iload 5, 2) := by decide +kernel
theorem dL_holds_100 : decode cL_holds 100 = .ok (.iload 10, 2) := by decide +kernel
theorem dL_holds_102 : decode cL_holds 102 = .ok (.ifCond .le 17, 3) := by decide +kernel
theorem dL_holds_105 : decode cL_holds 105 = .ok (.aload_n 0, 1) := by decide +kernel
theorem dL_holds_106 : decode cL_holds 106 = .ok (.iload 10, 2) := by decide +kernel
theorem dL_holds_108 : decode cL_holds 108 = .ok (.iconst 4, 1) := by decide +kernel
theorem dL_holds_109 : decode cL_holds 109 = .ok (.invokevirtual 19, 3) := by decide +kernel
theorem dL_holds_112 : decode cL_holds 112 = .ok (.ifCond .ne 7, 3) := by decide +kernel
theorem dL_holds_115 : decode cL_holds 115 = .ok (.iconst 1, 1) := by decide +kernel
theorem dL_holds_116 : decode cL_holds 116 = .ok (.goto 4, 3) := by decide +kernel
theorem dL_holds_119 : decode cL_holds 119 = .ok (.iconst 0, 1) := by decide +kernel
theorem dL_holds_120 : decode cL_holds 120 = .ok (.iadd, 1) := by decide +kernel
theorem dL_holds_121 : decode cL_holds 121 = .ok (.istore 5, 2) := by decide +kernel
theorem dL_holds_123 : decode cL_holds 123 = .ok (.iload 10, 2) := by decide +kernel
theorem dL_holds_125 : decode cL_holds 125 = .ok (.ifCond .ne 7, 3) := by decide +kernel
theorem dL_holds_128 : decode cL_holds 128 = .ok (.iconst 0, 1) := by decide +kernel
theorem dL_holds_129 : decode cL_holds 129 = .ok (.goto 20, 3) := by decide +kernel
theorem dL_holds_132 : decode cL_holds 132 = .ok (.aload_n 0, 1) := by decide +kernel
theorem dL_holds_133 : decode cL_holds 133 = .ok (.iload 10, 2) := by decide +kernel
theorem dL_holds_135 : decode cL_holds 135 = .ok (.iconst 1, 1) := by decide +kernel
theorem dL_holds_136 : decode cL_holds 136 = .ok (.isub, 1) := by decide +kernel
theorem dL_holds_137 : decode cL_holds 137 = .ok (.iconst 2, 1) := by decide +kernel
theorem dL_holds_138 : decode cL_holds 138 = .ok (.invokevirtual 19, 3) := by decide +kernel
theorem dL_holds_141 : decode cL_holds 141 = .ok (.iconst 1, 1) := by decide +kernel
theorem dL_holds_142 : decode cL_holds 142 = .ok (.iadd, 1) := by decide +kernel
theorem dL_holds_143 : decode cL_holds 143 = .ok (.aload_n 0, 1) := by decide +kernel
theorem dL_holds_144 : decode cL_holds 144 = .ok (.iconst 1, 1) := by decide +kernel
theorem dL_holds_145 : decode cL_holds 145 = .ok (.invokevirtual 26, 3) := by decide +kernel
theorem dL_holds_148 : decode cL_holds 148 = .ok (.irem, 1) := by decide +kernel
theorem dL_holds_149 : decode cL_holds 149 = .ok (.istore 12, 2) := by decide +kernel
theorem dL_holds_151 : decode cL_holds 151 = .ok (.iload 9, 2) := by decide +kernel
theorem dL_holds_153 : decode cL_holds 153 = .ok (.ifCond .eq 79, 3) := by decide +kernel
theorem dL_holds_156 : decode cL_holds 156 = .ok (.aload_n 0, 1) := by decide +kernel
theorem dL_holds_157 : decode cL_holds 157 = .ok (.iload 10, 2) := by decide +kernel
theorem dL_holds_159 : decode cL_holds 159 = .ok (.iconst 2, 1) := by decide +kernel
theorem dL_holds_160 : decode cL_holds 160 = .ok (.invokevirtual 19, 3) := by decide +kernel
theorem dL_holds_163 : decode cL_holds 163 = .ok (.aload_n 0, 1) := by decide +kernel
theorem dL_holds_164 : decode cL_holds 164 = .ok (.iload 10, 2) := by decide +kernel
theorem dL_holds_166 : decode cL_holds 166 = .ok (.iconst 1, 1) := by decide +kernel
theorem dL_holds_167 : decode cL_holds 167 = .ok (.invokevirtual 19, 3) := by decide +kernel
theorem dL_holds_170 : decode cL_holds 170 = .ok (.iconst 1, 1) := by decide +kernel
theorem dL_holds_171 : decode cL_holds 171 = .ok (.if_icmp .ne 16, 3) := by decide +kernel
theorem dL_holds_174 : decode cL_holds 174 = .ok (.aload_n 0, 1) := by decide +kernel
theorem dL_holds_175 : decode cL_holds 175 = .ok (.iconst 1, 1) := by decide +kernel
theorem dL_holds_176 : decode cL_holds 176 = .ok (.invokevirtual 26, 3) := by decide +kernel
theorem dL_holds_179 : decode cL_holds 179 = .ok (.iconst 1, 1) := by decide +kernel
theorem dL_holds_180 : decode cL_holds 180 = .ok (.isub, 1) := by decide +kernel
theorem dL_holds_181 : decode cL_holds 181 = .ok (.iload 11, 2) := by decide +kernel
theorem dL_holds_183 : decode cL_holds 183 = .ok (.isub, 1) := by decide +kernel
theorem dL_holds_184 : decode cL_holds 184 = .ok (.goto 5, 3) := by decide +kernel
theorem dL_holds_187 : decode cL_holds 187 = .ok (.iload 11, 2) := by decide +kernel
theorem dL_holds_189 : decode cL_holds 189 = .ok (.if_icmp .ne 43, 3) := by decide +kernel
theorem dL_holds_192 : decode cL_holds 192 = .ok (.aload_n 0, 1) := by decide +kernel
theorem dL_holds_193 : decode cL_holds 193 = .ok (.iload 10, 2) := by decide +kernel
theorem dL_holds_195 : decode cL_holds 195 = .ok (.iconst 3, 1) := by decide +kernel
theorem dL_holds_196 : decode cL_holds 196 = .ok (.invokevirtual 19, 3) := by decide +kernel
theorem dL_holds_199 : decode cL_holds 199 = .ok (.iconst 1, 1) := by decide +kernel
theorem dL_holds_200 : decode cL_holds 200 = .ok (.if_icmp .ne 7, 3) := by decide +kernel
theorem dL_holds_203 : decode cL_holds 203 = .ok (.iconst 1, 1) := by decide +kernel
theorem dL_holds_204 : decode cL_holds 204 = .ok (.goto 4, 3) := by decide +kernel
theorem dL_holds_207 : decode cL_holds 207 = .ok (.iconst 0, 1) := by decide +kernel
theorem dL_holds_208 : decode cL_holds 208 = .ok (.aload_n 0, 1) := by decide +kernel
theorem dL_holds_209 : decode cL_holds 209 = .ok (.iload 10, 2) := by decide +kernel
theorem dL_holds_211 : decode cL_holds 211 = .ok (.iconst 2, 1) := by decide +kernel
theorem dL_holds_212 : decode cL_holds 212 = .ok (.invokevirtual 19, 3) := by decide +kernel
theorem dL_holds_215 : decode cL_holds 215 = .ok (.iload 12, 2) := by decide +kernel
theorem dL_holds_217 : decode cL_holds 217 = .ok (.if_icmp .eq 7, 3) := by decide +kernel
theorem dL_holds_220 : decode cL_holds 220 = .ok (.iconst 1, 1) := by decide +kernel
theorem dL_holds_221 : decode cL_holds 221 = .ok (.goto 4, 3) := by decide +kernel
theorem dL_holds_224 : decode cL_holds 224 = .ok (.iconst 0, 1) := by decide +kernel
theorem dL_holds_225 : decode cL_holds 225 = .ok (.if_icmp .ne 7, 3) := by decide +kernel
theorem dL_holds_228 : decode cL_holds 228 = .ok (.iconst 1, 1) := by decide +kernel
theorem dL_holds_229 : decode cL_holds 229 = .ok (.goto 4, 3) := by decide +kernel
theorem dL_holds_232 : decode cL_holds 232 = .ok (.iconst 0, 1) := by decide +kernel
theorem dL_holds_233 : decode cL_holds 233 = .ok (.istore 9, 2) := by decide +kernel
theorem dL_holds_235 : decode cL_holds 235 = .ok (.iinc 10 1, 3) := by decide +kernel
theorem dL_holds_238 : decode cL_holds 238 = .ok (.goto (-193), 3) := by decide +kernel
theorem dL_holds_241 : decode cL_holds 241 = .ok (.bipush 15, 2) := by decide +kernel
theorem dL_holds_243 : decode cL_holds 243 = .ok (.istore 10, 2) := by decide +kernel
theorem dL_holds_245 : decode cL_holds 245 = .ok (.iload 10, 2) := by decide +kernel
theorem dL_holds_247 : decode cL_holds 247 = .ok (.ifCond .lt 149, 3) := by decide +kernel
theorem dL_holds_250 : decode cL_holds 250 = .ok (.iload 6, 2) := by decide +kernel
theorem dL_holds_252 : decode cL_holds 252 = .ok (.aload_n 0, 1) := by decide +kernel
theorem dL_holds_253 : decode cL_holds 253 = .ok (.iload 10, 2) := by decide +kernel
theorem dL_holds_255 : decode cL_holds 255 = .ok (.iconst 1, 1) := by decide +kernel
theorem dL_holds_256 : decode cL_holds 256 = .ok (.invokevirtual 23, 3) := by decide +kernel
theorem dL_holds_259 : decode cL_holds 259 = .ok (.iadd, 1) := by decide +kernel
theorem dL_holds_260 : decode cL_holds 260 = .ok (.istore 6, 2) := by decide +kernel
theorem dL_holds_262 : decode cL_holds 262 = .ok (.iload 7, 2) := by decide +kernel
theorem dL_holds_264 : decode cL_holds 264 = .ok (.aload_n 0, 1) := by decide +kernel
theorem dL_holds_265 : decode cL_holds 265 = .ok (.iload 10, 2) := by decide +kernel
theorem dL_holds_267 : decode cL_holds 267 = .ok (.iconst 2, 1) := by decide +kernel
theorem dL_holds_268 : decode cL_holds 268 = .ok (.invokevirtual 23, 3) := by decide +kernel
theorem dL_holds_271 : decode cL_holds 271 = .ok (.iadd, 1) := by decide +kernel
theorem dL_holds_272 : decode cL_holds 272 = .ok (.istore 7, 2) := by decide +kernel
theorem dL_holds_274 : decode cL_holds 274 = .ok (.iload 10, 2) := by decide +kernel
theorem dL_holds_276 : decode cL_holds 276 = .ok (.aload_n 0, 1) := by decide +kernel
theorem dL_holds_277 : decode cL_holds 277 = .ok (.iconst 0, 1) := by decide +kernel
theorem dL_holds_278 : decode cL_holds 278 = .ok (.invokevirtual 26, 3) := by decide +kernel
theorem dL_holds_281 : decode cL_holds 281 = .ok (.if_icmp .ge 18, 3) := by decide +kernel
theorem dL_holds_284 : decode cL_holds 284 = .ok (.aload_n 0, 1) := by decide +kernel
theorem dL_holds_285 : decode cL_holds 285 = .ok (.iload 10, 2) := by decide +kernel
theorem dL_holds_287 : decode cL_holds 287 = .ok (.iconst 1, 1) := by decide +kernel
theorem dL_holds_288 : decode cL_holds 288 = .ok (.invokevirtual 23, 3) := by decide +kernel
theorem dL_holds_291 : decode cL_holds 291 = .ok (.ifCond .ne 8, 3) := by decide +kernel
theorem dL_holds_294 : decode cL_holds 294 = .ok (.iload 10, 2) := by decide +kernel
theorem dL_holds_296 : decode cL_holds 296 = .ok (.goto 5, 3) := by decide +kernel
theorem dL_holds_299 : decode cL_holds 299 = .ok (.iload 8, 2) := by decide +kernel
theorem dL_holds_301 : decode cL_holds 301 = .ok (.istore 8, 2) := by decide +kernel
theorem dL_holds_303 : decode cL_holds 303 = .ok (.iload 9, 2) := by decide +kernel
theorem dL_holds_305 : decode cL_holds 305 = .ok (.ifCond .eq 82, 3) := by decide +kernel
theorem dL_holds_308 : decode cL_holds 308 = .ok (.aload_n 0, 1) := by decide +kernel
theorem dL_holds_309 : decode cL_holds 309 = .ok (.iload 10, 2) := by decide +kernel
theorem dL_holds_311 : decode cL_holds 311 = .ok (.iconst 0, 1) := by decide +kernel
theorem dL_holds_312 : decode cL_holds 312 = .ok (.invokevirtual 23, 3) := by decide +kernel
theorem dL_holds_315 : decode cL_holds 315 = .ok (.ifCond .lt 72, 3) := by decide +kernel
theorem dL_holds_318 : decode cL_holds 318 = .ok (.aload_n 0, 1) := by decide +kernel
theorem dL_holds_319 : decode cL_holds 319 = .ok (.iload 10, 2) := by decide +kernel
theorem dL_holds_321 : decode cL_holds 321 = .ok (.iconst 0, 1) := by decide +kernel
theorem dL_holds_322 : decode cL_holds 322 = .ok (.invokevirtual 23, 3) := by decide +kernel
theorem dL_holds_325 : decode cL_holds 325 = .ok (.aload_n 0, 1) := by decide +kernel
theorem dL_holds_326 : decode cL_holds 326 = .ok (.iload 10, 2) := by decide +kernel
theorem dL_holds_328 : decode cL_holds 328 = .ok (.iconst 1, 1) := by decide +kernel
theorem dL_holds_329 : decode cL_holds 329 = .ok (.invokevirtual 23, 3) := by decide +kernel
theorem dL_holds_332 : decode cL_holds 332 = .ok (.iadd, 1) := by decide +kernel
theorem dL_holds_333 : decode cL_holds 333 = .ok (.aload_n 0, 1) := by decide +kernel
theorem dL_holds_334 : decode cL_holds 334 = .ok (.iload 10, 2) := by decide +kernel
theorem dL_holds_336 : decode cL_holds 336 = .ok (.iconst 2, 1) := by decide +kernel
theorem dL_holds_337 : decode cL_holds 337 = .ok (.invokevirtual 23, 3) := by decide +kernel
theorem dL_holds_340 : decode cL_holds 340 = .ok (.iadd, 1) := by decide +kernel
theorem dL_holds_341 : decode cL_holds 341 = .ok (.aload_n 0, 1) := by decide +kernel
theorem dL_holds_342 : decode cL_holds 342 = .ok (.iload 10, 2) := by decide +kernel
theorem dL_holds_344 : decode cL_holds 344 = .ok (.iconst 3, 1) := by decide +kernel
theorem dL_holds_345 : decode cL_holds 345 = .ok (.invokevirtual 23, 3) := by decide +kernel
theorem dL_holds_348 : decode cL_holds 348 = .ok (.if_icmp .ne 39, 3) := by decide +kernel
theorem dL_holds_351 : decode cL_holds 351 = .ok (.iload 10, 2) := by decide +kernel
theorem dL_holds_353 : decode cL_holds 353 = .ok (.aload_n 0, 1) := by decide +kernel
theorem dL_holds_354 : decode cL_holds 354 = .ok (.iconst 0, 1) := by decide +kernel
theorem dL_holds_355 : decode cL_holds 355 = .ok (.invokevirtual 26, 3) := by decide +kernel
theorem dL_holds_358 : decode cL_holds 358 = .ok (.if_icmp .ge 25, 3) := by decide +kernel
theorem dL_holds_361 : decode cL_holds 361 = .ok (.aload_n 0, 1) := by decide +kernel
theorem dL_holds_362 : decode cL_holds 362 = .ok (.invokevirtual 68, 3) := by decide +kernel
theorem dL_holds_365 : decode cL_holds 365 = .ok (.aload_n 0, 1) := by decide +kernel
theorem dL_holds_366 : decode cL_holds 366 = .ok (.iload 10, 2) := by decide +kernel
theorem dL_holds_368 : decode cL_holds 368 = .ok (.iconst 0, 1) := by decide +kernel
theorem dL_holds_369 : decode cL_holds 369 = .ok (.invokevirtual 23, 3) := by decide +kernel
theorem dL_holds_372 : decode cL_holds 372 = .ok (.aload_n 0, 1) := by decide +kernel
theorem dL_holds_373 : decode cL_holds 373 = .ok (.iload 10, 2) := by decide +kernel
theorem dL_holds_375 : decode cL_holds 375 = .ok (.iconst 1, 1) := by decide +kernel
theorem dL_holds_376 : decode cL_holds 376 = .ok (.invokevirtual 23, 3) := by decide +kernel
theorem dL_holds_379 : decode cL_holds 379 = .ok (.iadd, 1) := by decide +kernel
theorem dL_holds_380 : decode cL_holds 380 = .ok (.if_icmp .gt 7, 3) := by decide +kernel
theorem dL_holds_383 : decode cL_holds 383 = .ok (.iconst 1, 1) := by decide +kernel
theorem dL_holds_384 : decode cL_holds 384 = .ok (.goto 4, 3) := by decide +kernel
theorem dL_holds_387 : decode cL_holds 387 = .ok (.iconst 0, 1) := by decide +kernel
theorem dL_holds_388 : decode cL_holds 388 = .ok (.istore 9, 2) := by decide +kernel
theorem dL_holds_390 : decode cL_holds 390 = .ok (.iinc 10 (-1), 3) := by decide +kernel
theorem dL_holds_393 : decode cL_holds 393 = .ok (.goto (-148), 3) := by decide +kernel
theorem dL_holds_396 : decode cL_holds 396 = .ok (.aload_n 0, 1) := by decide +kernel
theorem dL_holds_397 : decode cL_holds 397 = .ok (.iconst 2, 1) := by decide +kernel
theorem dL_holds_398 : decode cL_holds 398 = .ok (.invokevirtual 13, 3) := by decide +kernel
theorem dL_holds_401 : decode cL_holds 401 = .ok (.istore 10, 2) := by decide +kernel
theorem dL_holds_403 : decode cL_holds 403 = .ok (.aload_n 0, 1) := by decide +kernel
theorem dL_holds_404 : decode cL_holds 404 = .ok (.iconst 3, 1) := by decide +kernel
theorem dL_holds_405 : decode cL_holds 405 = .ok (.invokevirtual 13, 3) := by decide +kernel
theorem dL_holds_408 : decode cL_holds 408 = .ok (.istore 11, 2) := by decide +kernel
theorem dL_holds_410 : decode cL_holds 410 = .ok (.iload 9, 2) := by decide +kernel
theorem dL_holds_412 : decode cL_holds 412 = .ok (.ifCond .eq 103, 3) := by decide +kernel
theorem dL_holds_415 : decode cL_holds 415 = .ok (.iload 11, 2) := by decide +kernel
theorem dL_holds_417 : decode cL_holds 417 = .ok (.iconst (-1), 1) := by decide +kernel
theorem dL_holds_418 : decode cL_holds 418 = .ok (.if_icmp .ne 7, 3) := by decide +kernel
theorem dL_holds_421 : decode cL_holds 421 = .ok (.iconst 1, 1) := by decide +kernel
theorem dL_holds_422 : decode cL_holds 422 = .ok (.goto 4, 3) := by decide +kernel
theorem dL_holds_425 : decode cL_holds 425 = .ok (.iconst 0, 1) := by decide +kernel
theorem dL_holds_426 : decode cL_holds 426 = .ok (.iload 10, 2) := by decide +kernel
theorem dL_holds_428 : decode cL_holds 428 = .ok (.iconst 2, 1) := by decide +kernel
theorem dL_holds_429 : decode cL_holds 429 = .ok (.if_icmp .lt 9, 3) := by decide +kernel
theorem dL_holds_432 : decode cL_holds 432 = .ok (.iload 10, 2) := by decide +kernel
theorem dL_holds_434 : decode cL_holds 434 = .ok (.iconst 5, 1) := by decide +kernel
theorem dL_holds_435 : decode cL_holds 435 = .ok (.if_icmp .ne 7, 3) := by decide +kernel
theorem dL_holds_438 : decode cL_holds 438 = .ok (.iconst 1, 1) := by decide +kernel
theorem dL_holds_439 : decode cL_holds 439 = .ok (.goto 4, 3) := by decide +kernel
theorem dL_holds_442 : decode cL_holds 442 = .ok (.iconst 0, 1) := by decide +kernel
theorem dL_holds_443 : decode cL_holds 443 = .ok (.if_icmp .ne 72, 3) := by decide +kernel
theorem dL_holds_446 : decode cL_holds 446 = .ok (.iload 10, 2) := by decide +kernel
theorem dL_holds_448 : decode cL_holds 448 = .ok (.iconst 5, 1) := by decide +kernel
theorem dL_holds_449 : decode cL_holds 449 = .ok (.if_icmp .ne 8, 3) := by decide +kernel
theorem dL_holds_452 : decode cL_holds 452 = .ok (.iload 8, 2) := by decide +kernel
theorem dL_holds_454 : decode cL_holds 454 = .ok (.ifCond .lt 61, 3) := by decide +kernel
theorem dL_holds_457 : decode cL_holds 457 = .ok (.iload 10, 2) := by decide +kernel
theorem dL_holds_459 : decode cL_holds 459 = .ok (.iconst 1, 1) := by decide +kernel
theorem dL_holds_460 : decode cL_holds 460 = .ok (.if_icmp .ne 7, 3) := by decide +kernel
theorem dL_holds_463 : decode cL_holds 463 = .ok (.iconst 1, 1) := by decide +kernel
theorem dL_holds_464 : decode cL_holds 464 = .ok (.goto 4, 3) := by decide +kernel
theorem dL_holds_467 : decode cL_holds 467 = .ok (.iconst 0, 1) := by decide +kernel
theorem dL_holds_468 : decode cL_holds 468 = .ok (.iload_n 1, 1) := by decide +kernel
theorem dL_holds_469 : decode cL_holds 469 = .ok (.ifCond .ne 7, 3) := by decide +kernel
theorem dL_holds_472 : decode cL_holds 472 = .ok (.iconst 1, 1) := by decide +kernel
theorem dL_holds_473 : decode cL_holds 473 = .ok (.goto 4, 3) := by decide +kernel
theorem dL_holds_476 : decode cL_holds 476 = .ok (.iconst 0, 1) := by decide +kernel
theorem dL_holds_477 : decode cL_holds 477 = .ok (.if_icmp .ne 38, 3) := by decide +kernel
theorem dL_holds_480 : decode cL_holds 480 = .ok (.aload_n 0, 1) := by decide +kernel
theorem dL_holds_481 : decode cL_holds 481 = .ok (.iconst 5, 1) := by decide +kernel
theorem dL_holds_482 : decode cL_holds 482 = .ok (.invokevirtual 13, 3) := by decide +kernel
theorem dL_holds_485 : decode cL_holds 485 = .ok (.iconst 1, 1) := by decide +kernel
theorem dL_holds_486 : decode cL_holds 486 = .ok (.if_icmp .ne 7, 3) := by decide +kernel
theorem dL_holds_489 : decode cL_holds 489 = .ok (.iconst 1, 1) := by decide +kernel
theorem dL_holds_490 : decode cL_holds 490 = .ok (.goto 4, 3) := by decide +kernel
theorem dL_holds_493 : decode cL_holds 493 = .ok (.iconst 0, 1) := by decide +kernel
theorem dL_holds_494 : decode cL_holds 494 = .ok (.iload 10, 2) := by decide +kernel
theorem dL_holds_496 : decode cL_holds 496 = .ok (.ifCond .eq 11, 3) := by decide +kernel
theorem dL_holds_499 : decode cL_holds 499 = .ok (.iload_n 2, 1) := by decide +kernel
theorem dL_holds_500 : decode cL_holds 500 = .ok (.ifCond .ne 7, 3) := by decide +kernel
theorem dL_holds_503 : decode cL_holds 503 = .ok (.iconst 1, 1) := by decide +kernel
theorem dL_holds_504 : decode cL_holds 504 = .ok (.goto 4, 3) := by decide +kernel
theorem dL_holds_507 : decode cL_holds 507 = .ok (.iconst 0, 1) := by decide +kernel
theorem dL_holds_508 : decode cL_holds 508 = .ok (.if_icmp .ne 7, 3) := by decide +kernel
theorem dL_holds_511 : decode cL_holds 511 = .ok (.iconst 1, 1) := by decide +kernel
theorem dL_holds_512 : decode cL_holds 512 = .ok (.goto 4, 3) := by decide +kernel
theorem dL_holds_515 : decode cL_holds 515 = .ok (.iconst 0, 1) := by decide +kernel
theorem dL_holds_516 : decode cL_holds 516 = .ok (.istore 9, 2) := by decide +kernel
theorem dL_holds_518 : decode cL_holds 518 = .ok (.iload 9, 2) := by decide +kernel
theorem dL_holds_520 : decode cL_holds 520 = .ok (.ifCond .eq 65, 3) := by decide +kernel
theorem dL_holds_523 : decode cL_holds 523 = .ok (.iload 10, 2) := by decide +kernel
theorem dL_holds_525 : decode cL_holds 525 = .ok (.iconst 2, 1) := by decide +kernel
theorem dL_holds_526 : decode cL_holds 526 = .ok (.if_icmp .ne 59, 3) := by decide +kernel
theorem dL_holds_529 : decode cL_holds 529 = .ok (.aload_n 0, 1) := by decide +kernel
theorem dL_holds_530 : decode cL_holds 530 = .ok (.iload 11, 2) := by decide +kernel
theorem dL_holds_532 : decode cL_holds 532 = .ok (.iconst 1, 1) := by decide +kernel
theorem dL_holds_533 : decode cL_holds 533 = .ok (.invokevirtual 19, 3) := by decide +kernel
theorem dL_holds_536 : decode cL_holds 536 = .ok (.iconst 1, 1) := by decide +kernel
theorem dL_holds_537 : decode cL_holds 537 = .ok (.if_icmp .ne 7, 3) := by decide +kernel
theorem dL_holds_540 : decode cL_holds 540 = .ok (.iconst 1, 1) := by decide +kernel
theorem dL_holds_541 : decode cL_holds 541 = .ok (.goto 4, 3) := by decide +kernel
theorem dL_holds_544 : decode cL_holds 544 = .ok (.iconst 0, 1) := by decide +kernel
theorem dL_holds_545 : decode cL_holds 545 = .ok (.istore 9, 2) := by decide +kernel
theorem dL_holds_547 : decode cL_holds 547 = .ok (.iconst 0, 1) := by decide +kernel
theorem dL_holds_548 : decode cL_holds 548 = .ok (.istore 12, 2) := by decide +kernel
theorem dL_holds_550 : decode cL_holds 550 = .ok (.iload 12, 2) := by decide +kernel
theorem dL_holds_552 : decode cL_holds 552 = .ok (.iload 11, 2) := by decide +kernel
theorem dL_holds_554 : decode cL_holds 554 = .ok (.if_icmp .ge 31, 3) := by decide +kernel
theorem dL_holds_557 : decode cL_holds 557 = .ok (.iload 9, 2) := by decide +kernel
theorem dL_holds_559 : decode cL_holds 559 = .ok (.ifCond .eq 17, 3) := by decide +kernel
theorem dL_holds_562 : decode cL_holds 562 = .ok (.aload_n 0, 1) := by decide +kernel
theorem dL_holds_563 : decode cL_holds 563 = .ok (.iload 12, 2) := by decide +kernel
theorem dL_holds_565 : decode cL_holds 565 = .ok (.iconst 1, 1) := by decide +kernel
theorem dL_holds_566 : decode cL_holds 566 = .ok (.invokevirtual 19, 3) := by decide +kernel
theorem dL_holds_569 : decode cL_holds 569 = .ok (.ifCond .ne 7, 3) := by decide +kernel
theorem dL_holds_572 : decode cL_holds 572 = .ok (.iconst 1, 1) := by decide +kernel
theorem dL_holds_573 : decode cL_holds 573 = .ok (.goto 4, 3) := by decide +kernel
theorem dL_holds_576 : decode cL_holds 576 = .ok (.iconst 0, 1) := by decide +kernel
theorem dL_holds_577 : decode cL_holds 577 = .ok (.istore 9, 2) := by decide +kernel
theorem dL_holds_579 : decode cL_holds 579 = .ok (.iinc 12 1, 3) := by decide +kernel
theorem dL_holds_582 : decode cL_holds 582 = .ok (.goto (-32), 3) := by decide +kernel
theorem dL_holds_585 : decode cL_holds 585 = .ok (.iload 9, 2) := by decide +kernel
theorem dL_holds_587 : decode cL_holds 587 = .ok (.ifCond .eq 81, 3) := by decide +kernel
theorem dL_holds_590 : decode cL_holds 590 = .ok (.iload 10, 2) := by decide +kernel
theorem dL_holds_592 : decode cL_holds 592 = .ok (.ifCond .ne 25, 3) := by decide +kernel
theorem dL_holds_595 : decode cL_holds 595 = .ok (.iload_n 1, 1) := by decide +kernel
theorem dL_holds_596 : decode cL_holds 596 = .ok (.aload_n 0, 1) := by decide +kernel
theorem dL_holds_597 : decode cL_holds 597 = .ok (.iconst 0, 1) := by decide +kernel
theorem dL_holds_598 : decode cL_holds 598 = .ok (.invokevirtual 26, 3) := by decide +kernel
theorem dL_holds_601 : decode cL_holds 601 = .ok (.if_icmp .ne 67, 3) := by decide +kernel
theorem dL_holds_604 : decode cL_holds 604 = .ok (.iload_n 2, 1) := by decide +kernel
theorem dL_holds_605 : decode cL_holds 605 = .ok (.ifCond .ne 63, 3) := by decide +kernel
theorem dL_holds_608 : decode cL_holds 608 = .ok (.aload_n 0, 1) := by decide +kernel
theorem dL_holds_609 : decode cL_holds 609 = .ok (.bipush 6, 2) := by decide +kernel
theorem dL_holds_611 : decode cL_holds 611 = .ok (.invokevirtual 13, 3) := by decide +kernel
theorem dL_holds_614 : decode cL_holds 614 = .ok (.ifCond .ne 54, 3) := by decide +kernel
theorem dL_holds_617 : decode cL_holds 617 = .ok (.iload 10, 2) := by decide +kernel
theorem dL_holds_619 : decode cL_holds 619 = .ok (.bipush 6, 2) := by decide +kernel
theorem dL_holds_621 : decode cL_holds 621 = .ok (.if_icmp .ne 22, 3) := by decide +kernel
theorem dL_holds_624 : decode cL_holds 624 = .ok (.aload_n 0, 1) := by decide +kernel
theorem dL_holds_625 : decode cL_holds 625 = .ok (.iload 11, 2) := by decide +kernel
theorem dL_holds_627 : decode cL_holds 627 = .ok (.iconst 0, 1) := by decide +kernel
theorem dL_holds_628 : decode cL_holds 628 = .ok (.invokevirtual 19, 3) := by decide +kernel
theorem dL_holds_631 : decode cL_holds 631 = .ok (.aload_n 0, 1) := by decide +kernel
theorem dL_holds_632 : decode cL_holds 632 = .ok (.iload 11, 2) := by decide +kernel
theorem dL_holds_634 : decode cL_holds 634 = .ok (.iconst 1, 1) := by decide +kernel
theorem dL_holds_635 : decode cL_holds 635 = .ok (.isub, 1) := by decide +kernel
theorem dL_holds_636 : decode cL_holds 636 = .ok (.iconst 0, 1) := by decide +kernel
theorem dL_holds_637 : decode cL_holds 637 = .ok (.invokevirtual 19, 3) := by decide +kernel
theorem dL_holds_640 : decode cL_holds 640 = .ok (.if_icmp .ge 28, 3) := by decide +kernel
theorem dL_holds_643 : decode cL_holds 643 = .ok (.iload 10, 2) := by decide +kernel
theorem dL_holds_645 : decode cL_holds 645 = .ok (.iconst 3, 1) := by decide +kernel
theorem dL_holds_646 : decode cL_holds 646 = .ok (.if_icmp .ne 18, 3) := by decide +kernel
theorem dL_holds_649 : decode cL_holds 649 = .ok (.aload_n 0, 1) := by decide +kernel
theorem dL_holds_650 : decode cL_holds 650 = .ok (.iload 11, 2) := by decide +kernel
theorem dL_holds_652 : decode cL_holds 652 = .ok (.iconst 0, 1) := by decide +kernel
theorem dL_holds_653 : decode cL_holds 653 = .ok (.invokevirtual 19, 3) := by decide +kernel
theorem dL_holds_656 : decode cL_holds 656 = .ok (.aload_n 0, 1) := by decide +kernel
theorem dL_holds_657 : decode cL_holds 657 = .ok (.iconst 0, 1) := by decide +kernel
theorem dL_holds_658 : decode cL_holds 658 = .ok (.invokevirtual 26, 3) := by decide +kernel
theorem dL_holds_661 : decode cL_holds 661 = .ok (.if_icmp .lt 7, 3) := by decide +kernel
theorem dL_holds_664 : decode cL_holds 664 = .ok (.iconst 1, 1) := by decide +kernel
theorem dL_holds_665 : decode cL_holds 665 = .ok (.goto 4, 3) := by decide +kernel
theorem dL_holds_668 : decode cL_holds 668 = .ok (.iconst 0, 1) := by decide +kernel
theorem dL_holds_669 : decode cL_holds 669 = .ok (.istore 9, 2) := by decide +kernel
theorem dL_holds_671 : decode cL_holds 671 = .ok (.iload 9, 2) := by decide +kernel
theorem dL_holds_673 : decode cL_holds 673 = .ok (.ifCond .eq 195, 3) := by decide +kernel
theorem dL_holds_676 : decode cL_holds 676 = .ok (.iload_n 2, 1) := by decide +kernel
theorem dL_holds_677 : decode cL_holds 677 = .ok (.aload_n 0, 1) := by decide +kernel
theorem dL_holds_678 : decode cL_holds 678 = .ok (.iconst 1, 1) := by decide +kernel
theorem dL_holds_679 : decode cL_holds 679 = .ok (.invokevirtual 13, 3) := by decide +kernel
theorem dL_holds_682 : decode cL_holds 682 = .ok (.if_icmp .ne 186, 3) := by decide +kernel
theorem dL_holds_685 : decode cL_holds 685 = .ok (.iload_n 3, 1) := by decide +kernel
theorem dL_holds_686 : decode cL_holds 686 = .ok (.aload_n 0, 1) := by decide +kernel
theorem dL_holds_687 : decode cL_holds 687 = .ok (.bipush 8, 2) := by decide +kernel
theorem dL_holds_689 : decode cL_holds 689 = .ok (.invokevirtual 13, 3) := by decide +kernel
theorem dL_holds_692 : decode cL_holds 692 = .ok (.if_icmp .ne 176, 3) := by decide +kernel
theorem dL_holds_695 : decode cL_holds 695 = .ok (.iload 4, 2) := by decide +kernel
theorem dL_holds_697 : decode cL_holds 697 = .ok (.aload_n 0, 1) := by decide +kernel
theorem dL_holds_698 : decode cL_holds 698 = .ok (.bipush 9, 2) := by decide +kernel
theorem dL_holds_700 : decode cL_holds 700 = .ok (.invokevirtual 13, 3) := by decide +kernel
theorem dL_holds_703 : decode cL_holds 703 = .ok (.if_icmp .ne 165, 3) := by decide +kernel
theorem dL_holds_706 : decode cL_holds 706 = .ok (.iload 5, 2) := by decide +kernel
theorem dL_holds_708 : decode cL_holds 708 = .ok (.aload_n 0, 1) := by decide +kernel
theorem dL_holds_709 : decode cL_holds 709 = .ok (.bipush 11, 2) := by decide +kernel
theorem dL_holds_711 : decode cL_holds 711 = .ok (.invokevirtual 13, 3) := by decide +kernel
theorem dL_holds_714 : decode cL_holds 714 = .ok (.if_icmp .ne 154, 3) := by decide +kernel
theorem dL_holds_717 : decode cL_holds 717 = .ok (.iload 6, 2) := by decide +kernel
theorem dL_holds_719 : decode cL_holds 719 = .ok (.iload_n 1, 1) := by decide +kernel
theorem dL_holds_720 : decode cL_holds 720 = .ok (.if_icmp .ne 148, 3) := by decide +kernel
theorem dL_holds_723 : decode cL_holds 723 = .ok (.iload 7, 2) := by decide +kernel
theorem dL_holds_725 : decode cL_holds 725 = .ok (.aload_n 0, 1) := by decide +kernel
theorem dL_holds_726 : decode cL_holds 726 = .ok (.bipush 13, 2) := by decide +kernel
theorem dL_holds_728 : decode cL_holds 728 = .ok (.invokevirtual 13, 3) := by decide +kernel
theorem dL_holds_731 : decode cL_holds 731 = .ok (.if_icmp .ne 137, 3) := by decide +kernel
theorem dL_holds_734 : decode cL_holds 734 = .ok (.iload 8, 2) := by decide +kernel
theorem dL_holds_736 : decode cL_holds 736 = .ok (.aload_n 0, 1) := by decide +kernel
theorem dL_holds_737 : decode cL_holds 737 = .ok (.iconst 4, 1) := by decide +kernel
theorem dL_holds_738 : decode cL_holds 738 = .ok (.invokevirtual 13, 3) := by decide +kernel
theorem dL_holds_741 : decode cL_holds 741 = .ok (.if_icmp .ne 127, 3) := by decide +kernel
theorem dL_holds_744 : decode cL_holds 744 = .ok (.aload_n 0, 1) := by decide +kernel
theorem dL_holds_745 : decode cL_holds 745 = .ok (.bipush 6, 2) := by decide +kernel
theorem dL_holds_747 : decode cL_holds 747 = .ok (.invokevirtual 13, 3) := by decide +kernel
theorem dL_holds_750 : decode cL_holds 750 = .ok (.aload_n 0, 1) := by decide +kernel
theorem dL_holds_751 : decode cL_holds 751 = .ok (.bipush 7, 2) := by decide +kernel
theorem dL_holds_753 : decode cL_holds 753 = .ok (.invokevirtual 13, 3) := by decide +kernel
theorem dL_holds_756 : decode cL_holds 756 = .ok (.if_icmp .ne 112, 3) := by decide +kernel
theorem dL_holds_759 : decode cL_holds 759 = .ok (.aload_n 0, 1) := by decide +kernel
theorem dL_holds_760 : decode cL_holds 760 = .ok (.bipush 6, 2) := by decide +kernel
theorem dL_holds_762 : decode cL_holds 762 = .ok (.invokevirtual 13, 3) := by decide +kernel
theorem dL_holds_765 : decode cL_holds 765 = .ok (.ifCond .lt 103, 3) := by decide +kernel
theorem dL_holds_768 : decode cL_holds 768 = .ok (.aload_n 0, 1) := by decide +kernel
theorem dL_holds_769 : decode cL_holds 769 = .ok (.bipush 6, 2) := by decide +kernel
theorem dL_holds_771 : decode cL_holds 771 = .ok (.invokevirtual 13, 3) := by decide +kernel
theorem dL_holds_774 : decode cL_holds 774 = .ok (.iload_n 1, 1) := by decide +kernel
theorem dL_holds_775 : decode cL_holds 775 = .ok (.if_icmp .gt 93, 3) := by decide +kernel
theorem dL_holds_778 : decode cL_holds 778 = .ok (.aload_n 0, 1) := by decide +kernel
theorem dL_holds_779 : decode cL_holds 779 = .ok (.bipush 6, 2) := by decide +kernel
theorem dL_holds_781 : decode cL_holds 781 = .ok (.invokevirtual 13, 3) := by decide +kernel
theorem dL_holds_784 : decode cL_holds 784 = .ok (.ifCond .ne 7, 3) := by decide +kernel
theorem dL_holds_787 : decode cL_holds 787 = .ok (.iconst 1, 1) := by decide +kernel
theorem dL_holds_788 : decode cL_holds 788 = .ok (.goto 4, 3) := by decide +kernel
theorem dL_holds_791 : decode cL_holds 791 = .ok (.iconst 0, 1) := by decide +kernel
theorem dL_holds_792 : decode cL_holds 792 = .ok (.iload_n 3, 1) := by decide +kernel
theorem dL_holds_793 : decode cL_holds 793 = .ok (.ifCond .ne 7, 3) := by decide +kernel
theorem dL_holds_796 : decode cL_holds 796 = .ok (.iconst 1, 1) := by decide +kernel
theorem dL_holds_797 : decode cL_holds 797 = .ok (.goto 4, 3) := by decide +kernel
theorem dL_holds_800 : decode cL_holds 800 = .ok (.iconst 0, 1) := by decide +kernel
theorem dL_holds_801 : decode cL_holds 801 = .ok (.if_icmp .ne 67, 3) := by decide +kernel
theorem dL_holds_804 : decode cL_holds 804 = .ok (.aload_n 0, 1) := by decide +kernel
theorem dL_holds_805 : decode cL_holds 805 = .ok (.bipush 6, 2) := by decide +kernel
theorem dL_holds_807 : decode cL_holds 807 = .ok (.invokevirtual 13, 3) := by decide +kernel
theorem dL_holds_810 : decode cL_holds 810 = .ok (.iload_n 3, 1) := by decide +kernel
theorem dL_holds_811 : decode cL_holds 811 = .ok (.if_icmp .gt 57, 3) := by decide +kernel
theorem dL_holds_814 : decode cL_holds 814 = .ok (.aload_n 0, 1) := by decide +kernel
theorem dL_holds_815 : decode cL_holds 815 = .ok (.bipush 10, 2) := by decide +kernel
theorem dL_holds_817 : decode cL_holds 817 = .ok (.invokevirtual 13, 3) := by decide +kernel
theorem dL_holds_820 : decode cL_holds 820 = .ok (.aload_n 0, 1) := by decide +kernel
theorem dL_holds_821 : decode cL_holds 821 = .ok (.iconst 2, 1) := by decide +kernel
theorem dL_holds_822 : decode cL_holds 822 = .ok (.invokevirtual 26, 3) := by decide +kernel
theorem dL_holds_825 : decode cL_holds 825 = .ok (.iload 4, 2) := by decide +kernel
theorem dL_holds_827 : decode cL_holds 827 = .ok (.imul, 1) := by decide +kernel
theorem dL_holds_828 : decode cL_holds 828 = .ok (.if_icmp .lt 40, 3) := by decide +kernel
theorem dL_holds_831 : decode cL_holds 831 = .ok (.aload_n 0, 1) := by decide +kernel
theorem dL_holds_832 : decode cL_holds 832 = .ok (.iload_n 1, 1) := by decide +kernel
theorem dL_holds_833 : decode cL_holds 833 = .ok (.iconst 0, 1) := by decide +kernel
theorem dL_holds_834 : decode cL_holds 834 = .ok (.invokevirtual 19, 3) := by decide +kernel
theorem dL_holds_837 : decode cL_holds 837 = .ok (.iconst (-1), 1) := by decide +kernel
theorem dL_holds_838 : decode cL_holds 838 = .ok (.if_icmp .ne 30, 3) := by decide +kernel
theorem dL_holds_841 : decode cL_holds 841 = .ok (.aload_n 0, 1) := by decide +kernel
theorem dL_holds_842 : decode cL_holds 842 = .ok (.invokevirtual 71, 3) := by decide +kernel
theorem dL_holds_845 : decode cL_holds 845 = .ok (.iload_n 1, 1) := by decide +kernel
theorem dL_holds_846 : decode cL_holds 846 = .ok (.ifCond .ne 7, 3) := by decide +kernel
theorem dL_holds_849 : decode cL_holds 849 = .ok (.dconst 1, 1) := by decide +kernel
theorem dL_holds_850 : decode cL_holds 850 = .ok (.goto 10, 3) := by decide +kernel
theorem dL_holds_853 : decode cL_holds 853 = .ok (.iload_n 1, 1) := by decide +kernel
theorem dL_holds_854 : decode cL_holds 854 = .ok (.iload_n 2, 1) := by decide +kernel
theorem dL_holds_855 : decode cL_holds 855 = .ok (.isub, 1) := by decide +kernel
theorem dL_holds_856 : decode cL_holds 856 = .ok (.i2d, 1) := by decide +kernel
theorem dL_holds_857 : decode cL_holds 857 = .ok (.iload_n 1, 1) := by decide +kernel
theorem dL_holds_858 : decode cL_holds 858 = .ok (.i2d, 1) := by decide +kernel
theorem dL_holds_859 : decode cL_holds 859 = .ok (.ddiv, 1) := by decide +kernel
theorem dL_holds_860 : decode cL_holds 860 = .ok (.dcmp .l, 1) := by decide +kernel
theorem dL_holds_861 : decode cL_holds 861 = .ok (.ifCond .ne 7, 3) := by decide +kernel
theorem dL_holds_864 : decode cL_holds 864 = .ok (.iconst 1, 1) := by decide +kernel
theorem dL_holds_865 : decode cL_holds 865 = .ok (.goto 4, 3) := by decide +kernel
theorem dL_holds_868 : decode cL_holds 868 = .ok (.iconst 0, 1) := by decide +kernel
theorem dL_holds_869 : decode cL_holds 869 = .ok (.ireturn, 1) := by decide +kernel
