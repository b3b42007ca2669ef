/-! THE LAW, from its loop to its end -/
theorem dl_0 : decode code 0 = .ok (.new 13, 3) := by decide +kernel
theorem dl_3 : decode code 3 = .ok (.dup, 1) := by decide +kernel
theorem dl_4 : decode code 4 = .ok (.invokespecial 53, 3) := by decide +kernel
theorem dl_7 : decode code 7 = .ok (.astore_n 1, 1) := by decide +kernel
theorem dl_8 : decode code 8 = .ok (.iconst 0, 1) := by decide +kernel
theorem dl_9 : decode code 9 = .ok (.istore_n 2, 1) := by decide +kernel
theorem dl_10 : decode code 10 = .ok (.iconst 0, 1) := by decide +kernel
theorem dl_11 : decode code 11 = .ok (.istore_n 3, 1) := by decide +kernel
theorem dl_12 : decode code 12 = .ok (.iload_n 3, 1) := by decide +kernel
theorem dl_13 : decode code 13 = .ok (.bipush 36, 2) := by decide +kernel
theorem dl_15 : decode code 15 = .ok (.if_icmp .ge 404, 3) := by decide +kernel
theorem dl_18 : decode code 18 = .ok (.aload_n 0, 1) := by decide +kernel
theorem dl_19 : decode code 19 = .ok (.iload_n 3, 1) := by decide +kernel
theorem dl_20 : decode code 20 = .ok (.invokestatic 54, 3) := by decide +kernel
theorem dl_23 : decode code 23 = .ok (.istore 4, 2) := by decide +kernel
theorem dl_25 : decode code 25 = .ok (.aload_n 1, 1) := by decide +kernel
theorem dl_26 : decode code 26 = .ok (.invokestatic 58, 3) := by decide +kernel
theorem dl_29 : decode code 29 = .ok (.lstore 5, 2) := by decide +kernel
theorem dl_31 : decode code 31 = .ok (.aload_n 1, 1) := by decide +kernel
theorem dl_32 : decode code 32 = .ok (.iload 4, 2) := by decide +kernel
theorem dl_34 : decode code 34 = .ok (.invokestatic 62, 3) := by decide +kernel
theorem dl_37 : decode code 37 = .ok (.istore 7, 2) := by decide +kernel
theorem dl_39 : decode code 39 = .ok (.iload 7, 2) := by decide +kernel
theorem dl_41 : decode code 41 = .ok (.ifCond .ge 15, 3) := by decide +kernel
theorem dl_44 : decode code 44 = .ok (.aload_n 1, 1) := by decide +kernel
theorem dl_45 : decode code 45 = .ok (.invokestatic 58, 3) := by decide +kernel
theorem dl_48 : decode code 48 = .ok (.lload 5, 2) := by decide +kernel
theorem dl_50 : decode code 50 = .ok (.lcmp, 1) := by decide +kernel
theorem dl_51 : decode code 51 = .ok (.ifCond .eq 5, 3) := by decide +kernel
theorem dl_54 : decode code 54 = .ok (.iconst 0, 1) := by decide +kernel
theorem dl_55 : decode code 55 = .ok (.ireturn, 1) := by decide +kernel
theorem dl_56 : decode code 56 = .ok (.iload 7, 2) := by decide +kernel
theorem dl_58 : decode code 58 = .ok (.ifCond .ge 7, 3) := by decide +kernel
theorem dl_61 : decode code 61 = .ok (.iload_n 2, 1) := by decide +kernel
theorem dl_62 : decode code 62 = .ok (.goto 17, 3) := by decide +kernel
theorem dl_65 : decode code 65 = .ok (.iload_n 2, 1) := by decide +kernel
theorem dl_66 : decode code 66 = .ok (.bipush 6, 2) := by decide +kernel
theorem dl_68 : decode code 68 = .ok (.if_icmp .ge 9, 3) := by decide +kernel
theorem dl_71 : decode code 71 = .ok (.iload_n 2, 1) := by decide +kernel
theorem dl_72 : decode code 72 = .ok (.iconst 1, 1) := by decide +kernel
theorem dl_73 : decode code 73 = .ok (.iadd, 1) := by decide +kernel
theorem dl_74 : decode code 74 = .ok (.goto 5, 3) := by decide +kernel
theorem dl_77 : decode code 77 = .ok (.bipush 6, 2) := by decide +kernel
theorem dl_79 : decode code 79 = .ok (.istore_n 2, 1) := by decide +kernel
theorem dl_80 : decode code 80 = .ok (.iload 7, 2) := by decide +kernel
theorem dl_82 : decode code 82 = .ok (.ifCond .lt 38, 3) := by decide +kernel
theorem dl_85 : decode code 85 = .ok (.iload 4, 2) := by decide +kernel
theorem dl_87 : decode code 87 = .ok (.bipush 27, 2) := by decide +kernel
theorem dl_89 : decode code 89 = .ok (.ishr, 1) := by decide +kernel
theorem dl_90 : decode code 90 = .ok (.iconst 3, 1) := by decide +kernel
theorem dl_91 : decode code 91 = .ok (.iand, 1) := by decide +kernel
theorem dl_92 : decode code 92 = .ok (.ifCond .ne 28, 3) := by decide +kernel
theorem dl_95 : decode code 95 = .ok (.aload_n 1, 1) := by decide +kernel
theorem dl_96 : decode code 96 = .ok (.invokevirtual 66, 3) := by decide +kernel
theorem dl_99 : decode code 99 = .ok (.iload_n 2, 1) := by decide +kernel
theorem dl_100 : decode code 100 = .ok (.iconst 1, 1) := by decide +kernel
theorem dl_101 : decode code 101 = .ok (.isub, 1) := by decide +kernel
theorem dl_102 : decode code 102 = .ok (.if_icmp .ne 13, 3) := by decide +kernel
theorem dl_105 : decode code 105 = .ok (.aload_n 1, 1) := by decide +kernel
theorem dl_106 : decode code 106 = .ok (.invokestatic 58, 3) := by decide +kernel
theorem dl_109 : decode code 109 = .ok (.lload 5, 2) := by decide +kernel
theorem dl_111 : decode code 111 = .ok (.lcmp, 1) := by decide +kernel
theorem dl_112 : decode code 112 = .ok (.ifCond .eq 5, 3) := by decide +kernel
theorem dl_115 : decode code 115 = .ok (.iconst 0, 1) := by decide +kernel
theorem dl_116 : decode code 116 = .ok (.ireturn, 1) := by decide +kernel
theorem dl_117 : decode code 117 = .ok (.iinc 2 (-1), 3) := by decide +kernel
theorem dl_120 : decode code 120 = .ok (.aload_n 1, 1) := by decide +kernel
theorem dl_121 : decode code 121 = .ok (.iconst 0, 1) := by decide +kernel
theorem dl_122 : decode code 122 = .ok (.invokevirtual 12, 3) := by decide +kernel
theorem dl_125 : decode code 125 = .ok (.istore 8, 2) := by decide +kernel
theorem dl_127 : decode code 127 = .ok (.aload_n 1, 1) := by decide +kernel
theorem dl_128 : decode code 128 = .ok (.bipush 16, 2) := by decide +kernel
theorem dl_130 : decode code 130 = .ok (.invokevirtual 12, 3) := by decide +kernel
theorem dl_133 : decode code 133 = .ok (.iload_n 2, 1) := by decide +kernel
theorem dl_134 : decode code 134 = .ok (.if_icmp .ne 63, 3) := by decide +kernel
theorem dl_137 : decode code 137 = .ok (.aload_n 1, 1) := by decide +kernel
theorem dl_138 : decode code 138 = .ok (.iconst 1, 1) := by decide +kernel
theorem dl_139 : decode code 139 = .ok (.invokevirtual 12, 3) := by decide +kernel
theorem dl_142 : decode code 142 = .ok (.iconst 4, 1) := by decide +kernel
theorem dl_143 : decode code 143 = .ok (.iload 8, 2) := by decide +kernel
theorem dl_145 : decode code 145 = .ok (.imul, 1) := by decide +kernel
theorem dl_146 : decode code 146 = .ok (.iload 8, 2) := by decide +kernel
theorem dl_148 : decode code 148 = .ok (.imul, 1) := by decide +kernel
theorem dl_149 : decode code 149 = .ok (.iconst 2, 1) := by decide +kernel
theorem dl_150 : decode code 150 = .ok (.iadd, 1) := by decide +kernel
theorem dl_151 : decode code 151 = .ok (.if_icmp .ne 46, 3) := by decide +kernel
theorem dl_154 : decode code 154 = .ok (.aload_n 1, 1) := by decide +kernel
theorem dl_155 : decode code 155 = .ok (.iconst 2, 1) := by decide +kernel
theorem dl_156 : decode code 156 = .ok (.invokevirtual 12, 3) := by decide +kernel
theorem dl_159 : decode code 159 = .ok (.bipush 12, 2) := by decide +kernel
theorem dl_161 : decode code 161 = .ok (.iload 8, 2) := by decide +kernel
theorem dl_163 : decode code 163 = .ok (.imul, 1) := by decide +kernel
theorem dl_164 : decode code 164 = .ok (.iload 8, 2) := by decide +kernel
theorem dl_166 : decode code 166 = .ok (.imul, 1) := by decide +kernel
theorem dl_167 : decode code 167 = .ok (.if_icmp .ne 30, 3) := by decide +kernel
theorem dl_170 : decode code 170 = .ok (.aload_n 1, 1) := by decide +kernel
theorem dl_171 : decode code 171 = .ok (.iconst 3, 1) := by decide +kernel
theorem dl_172 : decode code 172 = .ok (.invokevirtual 12, 3) := by decide +kernel
theorem dl_175 : decode code 175 = .ok (.bipush 8, 2) := by decide +kernel
theorem dl_177 : decode code 177 = .ok (.iload 8, 2) := by decide +kernel
theorem dl_179 : decode code 179 = .ok (.imul, 1) := by decide +kernel
theorem dl_180 : decode code 180 = .ok (.iload 8, 2) := by decide +kernel
theorem dl_182 : decode code 182 = .ok (.imul, 1) := by decide +kernel
theorem dl_183 : decode code 183 = .ok (.if_icmp .ne 14, 3) := by decide +kernel
theorem dl_186 : decode code 186 = .ok (.aload_n 1, 1) := by decide +kernel
theorem dl_187 : decode code 187 = .ok (.bipush 18, 2) := by decide +kernel
theorem dl_189 : decode code 189 = .ok (.invokevirtual 12, 3) := by decide +kernel
theorem dl_192 : decode code 192 = .ok (.bipush 40, 2) := by decide +kernel
theorem dl_194 : decode code 194 = .ok (.if_icmp .le 5, 3) := by decide +kernel
theorem dl_197 : decode code 197 = .ok (.iconst 0, 1) := by decide +kernel
theorem dl_198 : decode code 198 = .ok (.ireturn, 1) := by decide +kernel
theorem dl_199 : decode code 199 = .ok (.aload_n 1, 1) := by decide +kernel
theorem dl_200 : decode code 200 = .ok (.bipush 6, 2) := by decide +kernel
theorem dl_202 : decode code 202 = .ok (.invokevirtual 12, 3) := by decide +kernel
theorem dl_205 : decode code 205 = .ok (.iload 8, 2) := by decide +kernel
theorem dl_207 : decode code 207 = .ok (.ineg, 1) := by decide +kernel
theorem dl_208 : decode code 208 = .ok (.if_icmp .ne 22, 3) := by decide +kernel
theorem dl_211 : decode code 211 = .ok (.aload_n 1, 1) := by decide +kernel
theorem dl_212 : decode code 212 = .ok (.bipush 13, 2) := by decide +kernel
theorem dl_214 : decode code 214 = .ok (.invokevirtual 12, 3) := by decide +kernel
theorem dl_217 : decode code 217 = .ok (.iconst 2, 1) := by decide +kernel
theorem dl_218 : decode code 218 = .ok (.if_icmp .ne 60, 3) := by decide +kernel
theorem dl_221 : decode code 221 = .ok (.aload_n 1, 1) := by decide +kernel
theorem dl_222 : decode code 222 = .ok (.bipush 10, 2) := by decide +kernel
theorem dl_224 : decode code 224 = .ok (.invokevirtual 12, 3) := by decide +kernel
theorem dl_227 : decode code 227 = .ok (.ifCond .ne 51, 3) := by decide +kernel
theorem dl_230 : decode code 230 = .ok (.aload_n 1, 1) := by decide +kernel
theorem dl_231 : decode code 231 = .ok (.bipush 12, 2) := by decide +kernel
theorem dl_233 : decode code 233 = .ok (.invokevirtual 12, 3) := by decide +kernel
theorem dl_236 : decode code 236 = .ok (.aload_n 1, 1) := by decide +kernel
theorem dl_237 : decode code 237 = .ok (.bipush 9, 2) := by decide +kernel
theorem dl_239 : decode code 239 = .ok (.invokevirtual 12, 3) := by decide +kernel
theorem dl_242 : decode code 242 = .ok (.if_icmp .gt 36, 3) := by decide +kernel
theorem dl_245 : decode code 245 = .ok (.aload_n 1, 1) := by decide +kernel
theorem dl_246 : decode code 246 = .ok (.bipush 11, 2) := by decide +kernel
theorem dl_248 : decode code 248 = .ok (.invokevirtual 12, 3) := by decide +kernel
theorem dl_251 : decode code 251 = .ok (.aload_n 1, 1) := by decide +kernel
theorem dl_252 : decode code 252 = .ok (.bipush 18, 2) := by decide +kernel
theorem dl_254 : decode code 254 = .ok (.invokevirtual 12, 3) := by decide +kernel
theorem dl_257 : decode code 257 = .ok (.if_icmp .gt 21, 3) := by decide +kernel
theorem dl_260 : decode code 260 = .ok (.aload_n 1, 1) := by decide +kernel
theorem dl_261 : decode code 261 = .ok (.bipush 11, 2) := by decide +kernel
theorem dl_263 : decode code 263 = .ok (.invokevirtual 12, 3) := by decide +kernel
theorem dl_266 : decode code 266 = .ok (.ifCond .ne 14, 3) := by decide +kernel
theorem dl_269 : decode code 269 = .ok (.aload_n 1, 1) := by decide +kernel
theorem dl_270 : decode code 270 = .ok (.bipush 12, 2) := by decide +kernel
theorem dl_272 : decode code 272 = .ok (.invokevirtual 12, 3) := by decide +kernel
theorem dl_275 : decode code 275 = .ok (.ifCond .le 5, 3) := by decide +kernel
theorem dl_278 : decode code 278 = .ok (.iconst 0, 1) := by decide +kernel
theorem dl_279 : decode code 279 = .ok (.ireturn, 1) := by decide +kernel
theorem dl_280 : decode code 280 = .ok (.aload_n 1, 1) := by decide +kernel
theorem dl_281 : decode code 281 = .ok (.iconst 0, 1) := by decide +kernel
theorem dl_282 : decode code 282 = .ok (.invokevirtual 69, 3) := by decide +kernel
theorem dl_285 : decode code 285 = .ok (.istore 9, 2) := by decide +kernel
theorem dl_287 : decode code 287 = .ok (.iload 9, 2) := by decide +kernel
theorem dl_289 : decode code 289 = .ok (.ifCond .lt 70, 3) := by decide +kernel
theorem dl_292 : decode code 292 = .ok (.iload 9, 2) := by decide +kernel
theorem dl_294 : decode code 294 = .ok (.i2l, 1) := by decide +kernel
theorem dl_295 : decode code 295 = .ok (.aload_n 1, 1) := by decide +kernel
theorem dl_296 : decode code 296 = .ok (.bipush 14, 2) := by decide +kernel
theorem dl_298 : decode code 298 = .ok (.invokevirtual 12, 3) := by decide +kernel
theorem dl_301 : decode code 301 = .ok (.i2l, 1) := by decide +kernel
theorem dl_302 : decode code 302 = .ok (.lmul, 1) := by decide +kernel
theorem dl_303 : decode code 303 = .ok (.lstore 10, 2) := by decide +kernel
theorem dl_305 : decode code 305 = .ok (.aload_n 1, 1) := by decide +kernel
theorem dl_306 : decode code 306 = .ok (.iconst 3, 1) := by decide +kernel
theorem dl_307 : decode code 307 = .ok (.invokevirtual 69, 3) := by decide +kernel
theorem dl_310 : decode code 310 = .ok (.i2l, 1) := by decide +kernel
theorem dl_311 : decode code 311 = .ok (.aload_n 1, 1) := by decide +kernel
theorem dl_312 : decode code 312 = .ok (.iconst 1, 1) := by decide +kernel
theorem dl_313 : decode code 313 = .ok (.invokevirtual 69, 3) := by decide +kernel
theorem dl_316 : decode code 316 = .ok (.i2l, 1) := by decide +kernel
theorem dl_317 : decode code 317 = .ok (.ladd, 1) := by decide +kernel
theorem dl_318 : decode code 318 = .ok (.lstore 12, 2) := by decide +kernel
theorem dl_320 : decode code 320 = .ok (.lload 12, 2) := by decide +kernel
theorem dl_322 : decode code 322 = .ok (.lload 10, 2) := by decide +kernel
theorem dl_324 : decode code 324 = .ok (.lcmp, 1) := by decide +kernel
theorem dl_325 : decode code 325 = .ok (.ifCond .gt 32, 3) := by decide +kernel
theorem dl_328 : decode code 328 = .ok (.iload 9, 2) := by decide +kernel
theorem dl_330 : decode code 330 = .ok (.aload_n 1, 1) := by decide +kernel
theorem dl_331 : decode code 331 = .ok (.bipush 8, 2) := by decide +kernel
theorem dl_333 : decode code 333 = .ok (.invokevirtual 12, 3) := by decide +kernel
theorem dl_336 : decode code 336 = .ok (.if_icmp .gt 21, 3) := by decide +kernel
theorem dl_339 : decode code 339 = .ok (.aload_n 1, 1) := by decide +kernel
theorem dl_340 : decode code 340 = .ok (.bipush 8, 2) := by decide +kernel
theorem dl_342 : decode code 342 = .ok (.invokevirtual 12, 3) := by decide +kernel
theorem dl_345 : decode code 345 = .ok (.ifCond .le 14, 3) := by decide +kernel
theorem dl_348 : decode code 348 = .ok (.aload_n 1, 1) := by decide +kernel
theorem dl_349 : decode code 349 = .ok (.iconst 2, 1) := by decide +kernel
theorem dl_350 : decode code 350 = .ok (.invokevirtual 69, 3) := by decide +kernel
theorem dl_353 : decode code 353 = .ok (.iconst 1, 1) := by decide +kernel
theorem dl_354 : decode code 354 = .ok (.if_icmp .ge 5, 3) := by decide +kernel
theorem dl_357 : decode code 357 = .ok (.iconst 0, 1) := by decide +kernel
theorem dl_358 : decode code 358 = .ok (.ireturn, 1) := by decide +kernel
theorem dl_359 : decode code 359 = .ok (.aload_n 1, 1) := by decide +kernel
theorem dl_360 : decode code 360 = .ok (.invokevirtual 72, 3) := by decide +kernel
theorem dl_363 : decode code 363 = .ok (.istore 10, 2) := by decide +kernel
theorem dl_365 : decode code 365 = .ok (.iload 10, 2) := by decide +kernel
theorem dl_367 : decode code 367 = .ok (.ifCond .lt 24, 3) := by decide +kernel
theorem dl_370 : decode code 370 = .ok (.aload_n 1, 1) := by decide +kernel
theorem dl_371 : decode code 371 = .ok (.iload 10, 2) := by decide +kernel
theorem dl_373 : decode code 373 = .ok (.iconst 4, 1) := by decide +kernel
theorem dl_374 : decode code 374 = .ok (.invokevirtual 20, 3) := by decide +kernel
theorem dl_377 : decode code 377 = .ok (.iconst 1, 1) := by decide +kernel
theorem dl_378 : decode code 378 = .ok (.if_icmp .ne 33, 3) := by decide +kernel
theorem dl_381 : decode code 381 = .ok (.aload_n 1, 1) := by decide +kernel
theorem dl_382 : decode code 382 = .ok (.iload 10, 2) := by decide +kernel
theorem dl_384 : decode code 384 = .ok (.iconst 5, 1) := by decide +kernel
theorem dl_385 : decode code 385 = .ok (.invokevirtual 20, 3) := by decide +kernel
theorem dl_388 : decode code 388 = .ok (.ifCond .ne 23, 3) := by decide +kernel
theorem dl_391 : decode code 391 = .ok (.iload 10, 2) := by decide +kernel
theorem dl_393 : decode code 393 = .ok (.ifCond .ge 20, 3) := by decide +kernel
theorem dl_396 : decode code 396 = .ok (.aload_n 1, 1) := by decide +kernel
theorem dl_397 : decode code 397 = .ok (.bipush 8, 2) := by decide +kernel
theorem dl_399 : decode code 399 = .ok (.invokevirtual 12, 3) := by decide +kernel
theorem dl_402 : decode code 402 = .ok (.aload_n 1, 1) := by decide +kernel
theorem dl_403 : decode code 403 = .ok (.bipush 11, 2) := by decide +kernel
theorem dl_405 : decode code 405 = .ok (.invokevirtual 12, 3) := by decide +kernel
theorem dl_408 : decode code 408 = .ok (.if_icmp .le 5, 3) := by decide +kernel
theorem dl_411 : decode code 411 = .ok (.iconst 0, 1) := by decide +kernel
theorem dl_412 : decode code 412 = .ok (.ireturn, 1) := by decide +kernel
theorem dl_413 : decode code 413 = .ok (.iinc 3 1, 3) := by decide +kernel
theorem dl_416 : decode code 416 = .ok (.goto (-404), 3) := by decide +kernel
theorem dl_419 : decode code 419 = .ok (.aload_n 1, 1) := by decide +kernel
theorem dl_420 : decode code 420 = .ok (.iconst 1, 1) := by decide +kernel
theorem dl_421 : decode code 421 = .ok (.aload_n 0, 1) := by decide +kernel
theorem dl_422 : decode code 422 = .ok (.bipush 40, 2) := by decide +kernel
theorem dl_424 : decode code 424 = .ok (.invokestatic 54, 3) := by decide +kernel
theorem dl_427 : decode code 427 = .ok (.bipush 60, 2) := by decide +kernel
theorem dl_429 : decode code 429 = .ok (.invokestatic 26, 3) := by decide +kernel
theorem dl_432 : decode code 432 = .ok (.iadd, 1) := by decide +kernel
theorem dl_433 : decode code 433 = .ok (.invokevirtual 75, 3) := by decide +kernel
theorem dl_436 : decode code 436 = .ok (.istore_n 3, 1) := by decide +kernel
theorem dl_437 : decode code 437 = .ok (.iload_n 3, 1) := by decide +kernel
theorem dl_438 : decode code 438 = .ok (.ifCond .lt 46, 3) := by decide +kernel
theorem dl_441 : decode code 441 = .ok (.iconst 1, 1) := by decide +kernel
theorem dl_442 : decode code 442 = .ok (.aload_n 0, 1) := by decide +kernel
theorem dl_443 : decode code 443 = .ok (.bipush 40, 2) := by decide +kernel
theorem dl_445 : decode code 445 = .ok (.invokestatic 54, 3) := by decide +kernel
theorem dl_448 : decode code 448 = .ok (.bipush 60, 2) := by decide +kernel
theorem dl_450 : decode code 450 = .ok (.invokestatic 26, 3) := by decide +kernel
theorem dl_453 : decode code 453 = .ok (.iadd, 1) := by decide +kernel
theorem dl_454 : decode code 454 = .ok (.istore 4, 2) := by decide +kernel
theorem dl_456 : decode code 456 = .ok (.aload_n 1, 1) := by decide +kernel
theorem dl_457 : decode code 457 = .ok (.iload_n 3, 1) := by decide +kernel
theorem dl_458 : decode code 458 = .ok (.invokevirtual 34, 3) := by decide +kernel
theorem dl_461 : decode code 461 = .ok (.ifCond .lt 21, 3) := by decide +kernel
theorem dl_464 : decode code 464 = .ok (.aload_n 1, 1) := by decide +kernel
theorem dl_465 : decode code 465 = .ok (.iconst 0, 1) := by decide +kernel
theorem dl_466 : decode code 466 = .ok (.invokevirtual 69, 3) := by decide +kernel
theorem dl_469 : decode code 469 = .ok (.iload 4, 2) := by decide +kernel
theorem dl_471 : decode code 471 = .ok (.if_icmp .gt 11, 3) := by decide +kernel
theorem dl_474 : decode code 474 = .ok (.aload_n 1, 1) := by decide +kernel
theorem dl_475 : decode code 475 = .ok (.iconst 0, 1) := by decide +kernel
theorem dl_476 : decode code 476 = .ok (.invokevirtual 69, 3) := by decide +kernel
theorem dl_479 : decode code 479 = .ok (.ifCond .ge 5, 3) := by decide +kernel
theorem dl_482 : decode code 482 = .ok (.iconst 0, 1) := by decide +kernel
theorem dl_483 : decode code 483 = .ok (.ireturn, 1) := by decide +kernel
theorem dl_484 : decode code 484 = .ok (.iconst 1, 1) := by decide +kernel
theorem dl_485 : decode code 485 = .ok (.ireturn, 1) := by decide +kernel
theorem lk_15_54 : pm_LS 15 54 188 := ⟨pm_in 586 (by decide +kernel) (by decide +kernel), pm_in 587 (by decide +kernel) (by decide +kernel), (by decide +kernel)⟩
theorem lk_15_58 : pm_LS 15 58 190 := ⟨pm_in 593 (by decide +kernel) (by decide +kernel), pm_in 594 (by decide +kernel) (by decide +kernel), (by decide +kernel)⟩
theorem lk_15_62 : pm_LS 15 62 191 := ⟨pm_in 600 (by decide +kernel) (by decide +kernel), pm_in 601 (by decide +kernel) (by decide +kernel), (by decide +kernel)⟩
theorem lk_15_66 : pm_LV 15 66 64 := ⟨pm_in 491 (by decide +kernel) (by decide +kernel), pm_in 492 (by decide +kernel) (by decide +kernel), pm_in 493 (by decide +kernel) (by decide +kernel), (by decide +kernel)⟩
theorem lk_15_69 : pm_LV 15 69 78 := ⟨pm_in 569 (by decide +kernel) (by decide +kernel), pm_in 570 (by decide +kernel) (by decide +kernel), pm_in 571 (by decide +kernel) (by decide +kernel), (by decide +kernel)⟩
theorem lk_15_72 : pm_LV 15 72 77 := ⟨pm_in 560 (by decide +kernel) (by decide +kernel), pm_in 561 (by decide +kernel) (by decide +kernel), pm_in 562 (by decide +kernel) (by decide +kernel), (by decide +kernel)⟩
theorem lk_15_75 : pm_LV 15 75 79 := ⟨pm_in 582 (by decide +kernel) (by decide +kernel), pm_in 583 (by decide +kernel) (by decide +kernel), pm_in 584 (by decide +kernel) (by decide +kernel), (by decide +kernel)⟩
def l0 (σ : Sig) (e : Nat) : Lcs := [(0, .ref 0), (1, .ref 1), (2, .int (nI σ.2.1.1)), (3, .int (nI e))]
theorem lz_b {N : Nat} {xs : Nat → Int32} {σ : Sig} {e : Nat} {A : Mem} (hC : CW σ A) (k : ∀ A, CW σ A → lz_P N xs 230 (l0 σ e) [] A) : lz_P N xs 120 (l0 σ e) [] A := by
  have ho := hC.1.1
  refine lz_aload_n (i := 1) dl_120 rfl rfl ?_
  refine lz_iconst (v := nI 0) dl_121 (by decide) ?_
  refine lz_callV (k2 := 63) (vs := [(nI 0)]) dl_122 lk_15_12 ok_63 rfl rfl rfl (Nat.le_of_ble_eq_true rfl) rfl rfl rfl rfl ⟨(Nat.le_of_ble_eq_true rfl), (Nat.le_of_ble_eq_true rfl)⟩ (Nat.le_of_ble_eq_true rfl) ?_
  refine pc_cnt hC (by decide) (fun A hC => ?_)
  refine lz_istore (L2 := [(0, _), (1, _), (2, _), (3, _), (8, _)]) dl_125 (by decide) rfl ?_
  refine lz_aload_n (i := 1) dl_127 rfl rfl ?_
  refine lz_bipush (v := nI 16) dl_128 (by decide) ?_
  refine lz_callV (k2 := 63) (vs := [(nI 16)]) dl_130 lk_15_12 ok_63 rfl rfl rfl (Nat.le_of_ble_eq_true rfl) rfl rfl rfl rfl ⟨(Nat.le_of_ble_eq_true rfl), (Nat.le_of_ble_eq_true rfl)⟩ (Nat.le_of_ble_eq_true rfl) ?_
  refine pc_cnt hC (by decide) (fun A hC => ?_)
  refine lz_iload_n (i := 2) dl_133 rfl rfl ?_
  refine lz_icmp_ne (tgt := 197) dl_134 rfl (fun h9 => absurd rfl h9) (fun _ => ?_)
  refine lz_aload_n (i := 1) dl_137 rfl rfl ?_
  refine lz_iconst (v := nI 1) dl_138 (by decide) ?_
  refine lz_callV (k2 := 63) (vs := [(nI 1)]) dl_139 lk_15_12 ok_63 rfl rfl rfl (Nat.le_of_ble_eq_true rfl) rfl rfl rfl rfl ⟨(Nat.le_of_ble_eq_true rfl), (Nat.le_of_ble_eq_true rfl)⟩ (Nat.le_of_ble_eq_true rfl) ?_
  refine pc_cnt hC (by decide) (fun A hC => ?_)
  refine lz_iconst (v := 4) dl_142 (by decide) ?_
  refine lz_iload dl_143 rfl ?_
  refine lz_imul dl_145 ?_
  refine lz_iload dl_146 rfl ?_
  refine lz_imul dl_148 ?_
  refine lz_iconst (v := 2) dl_149 (by decide) ?_
  refine lz_iadd dl_150 ?_
  refine lz_icmp_ne (tgt := 197) dl_151 rfl (fun h9 => absurd (ct_1 σ) h9) (fun _ => ?_)
  refine lz_aload_n (i := 1) dl_154 rfl rfl ?_
  refine lz_iconst (v := nI 2) dl_155 (by decide) ?_
  refine lz_callV (k2 := 63) (vs := [(nI 2)]) dl_156 lk_15_12 ok_63 rfl rfl rfl (Nat.le_of_ble_eq_true rfl) rfl rfl rfl rfl ⟨(Nat.le_of_ble_eq_true rfl), (Nat.le_of_ble_eq_true rfl)⟩ (Nat.le_of_ble_eq_true rfl) ?_
  refine pc_cnt hC (by decide) (fun A hC => ?_)
  refine lz_bipush (v := 12) dl_159 (by decide) ?_
  refine lz_iload dl_161 rfl ?_
  refine lz_imul dl_163 ?_
  refine lz_iload dl_164 rfl ?_
  refine lz_imul dl_166 ?_
  refine lz_icmp_ne (tgt := 197) dl_167 rfl (fun h9 => absurd (ct_2 σ) h9) (fun _ => ?_)
  refine lz_aload_n (i := 1) dl_170 rfl rfl ?_
  refine lz_iconst (v := nI 3) dl_171 (by decide) ?_
  refine lz_callV (k2 := 63) (vs := [(nI 3)]) dl_172 lk_15_12 ok_63 rfl rfl rfl (Nat.le_of_ble_eq_true rfl) rfl rfl rfl rfl ⟨(Nat.le_of_ble_eq_true rfl), (Nat.le_of_ble_eq_true rfl)⟩ (Nat.le_of_ble_eq_true rfl) ?_
  refine pc_cnt hC (by decide) (fun A hC => ?_)
  refine lz_bipush (v := 8) dl_175 (by decide) ?_
  refine lz_iload dl_177 rfl ?_
  refine lz_imul dl_179 ?_
  refine lz_iload dl_180 rfl ?_
  refine lz_imul dl_182 ?_
  refine lz_icmp_ne (tgt := 197) dl_183 rfl (fun h9 => absurd (ct_3 σ) h9) (fun _ => ?_)
  refine lz_aload_n (i := 1) dl_186 rfl rfl ?_
  refine lz_bipush (v := nI 18) dl_187 (by decide) ?_
  refine lz_callV (k2 := 63) (vs := [(nI 18)]) dl_189 lk_15_12 ok_63 rfl rfl rfl (Nat.le_of_ble_eq_true rfl) rfl rfl rfl rfl ⟨(Nat.le_of_ble_eq_true rfl), (Nat.le_of_ble_eq_true rfl)⟩ (Nat.le_of_ble_eq_true rfl) ?_
  refine pc_cnt hC (by decide) (fun A hC => ?_)
  refine lz_bipush (v := 40) dl_192 (by decide) ?_
  refine lz_icmp_le (tgt := 199) dl_194 rfl (fun _ => ?_) (fun h9 => absurd (ct_18 ho) h9)
  refine lz_aload_n (i := 1) dl_199 rfl rfl ?_
  refine lz_bipush (v := nI 6) dl_200 (by decide) ?_
  refine lz_callV (k2 := 63) (vs := [(nI 6)]) dl_202 lk_15_12 ok_63 rfl rfl rfl (Nat.le_of_ble_eq_true rfl) rfl rfl rfl rfl ⟨(Nat.le_of_ble_eq_true rfl), (Nat.le_of_ble_eq_true rfl)⟩ (Nat.le_of_ble_eq_true rfl) ?_
  refine pc_cnt hC (by decide) (fun A hC => ?_)
  refine lz_iload dl_205 rfl ?_
  refine lz_ineg dl_207 ?_
  refine lz_icmp_ne (tgt := 230) dl_208 rfl (fun c_208 => ?_) (fun c_208 => ?_)
  · refine lz_pick [0, 1, 2, 3] (L2 := l0 σ e) rfl ?_
    exact k A hC
  · refine lz_aload_n (i := 1) dl_211 rfl rfl ?_
    refine lz_bipush (v := nI 13) dl_212 (by decide) ?_
    refine lz_callV (k2 := 63) (vs := [(nI 13)]) dl_214 lk_15_12 ok_63 rfl rfl rfl (Nat.le_of_ble_eq_true rfl) rfl rfl rfl rfl ⟨(Nat.le_of_ble_eq_true rfl), (Nat.le_of_ble_eq_true rfl)⟩ (Nat.le_of_ble_eq_true rfl) ?_
    refine pc_cnt hC (by decide) (fun A hC => ?_)
    refine lz_iconst (v := 2) dl_217 (by decide) ?_
    refine lz_icmp_ne (tgt := 278) dl_218 rfl (fun h9 => absurd (ct_13 ho c_208).1 h9) (fun _ => ?_)
    refine lz_aload_n (i := 1) dl_221 rfl rfl ?_
    refine lz_bipush (v := nI 10) dl_222 (by decide) ?_
    refine lz_callV (k2 := 63) (vs := [(nI 10)]) dl_224 lk_15_12 ok_63 rfl rfl rfl (Nat.le_of_ble_eq_true rfl) rfl rfl rfl rfl ⟨(Nat.le_of_ble_eq_true rfl), (Nat.le_of_ble_eq_true rfl)⟩ (Nat.le_of_ble_eq_true rfl) ?_
    refine pc_cnt hC (by decide) (fun A hC => ?_)
    refine lz_if_ne (tgt := 278) dl_227 rfl (fun h9 => absurd (ct_13 ho c_208).2 h9) (fun _ => ?_)
    refine lz_pick [0, 1, 2, 3] (L2 := l0 σ e) rfl ?_
    exact k A hC
theorem lz_c {N : Nat} {xs : Nat → Int32} {σ : Sig} {e : Nat} {A : Mem} (hC : CW σ A) (k : ∀ A, CW σ A → lz_P N xs 280 (l0 σ e) [] A) : lz_P N xs 230 (l0 σ e) [] A := by
  have ho := hC.1.1
  refine lz_aload_n (i := 1) dl_230 rfl rfl ?_
  refine lz_bipush (v := nI 12) dl_231 (by decide) ?_
  refine lz_callV (k2 := 63) (vs := [(nI 12)]) dl_233 lk_15_12 ok_63 rfl rfl rfl (Nat.le_of_ble_eq_true rfl) rfl rfl rfl rfl ⟨(Nat.le_of_ble_eq_true rfl), (Nat.le_of_ble_eq_true rfl)⟩ (Nat.le_of_ble_eq_true rfl) ?_
  refine pc_cnt hC (by decide) (fun A hC => ?_)
  refine lz_aload_n (i := 1) dl_236 rfl rfl ?_
  refine lz_bipush (v := nI 9) dl_237 (by decide) ?_
  refine lz_callV (k2 := 63) (vs := [(nI 9)]) dl_239 lk_15_12 ok_63 rfl rfl rfl (Nat.le_of_ble_eq_true rfl) rfl rfl rfl rfl ⟨(Nat.le_of_ble_eq_true rfl), (Nat.le_of_ble_eq_true rfl)⟩ (Nat.le_of_ble_eq_true rfl) ?_
  refine pc_cnt hC (by decide) (fun A hC => ?_)
  refine lz_icmp_gt (tgt := 278) dl_242 rfl (fun h9 => absurd h9 (Int32.not_lt.mpr (ct_12 ho))) (fun _ => ?_)
  refine lz_aload_n (i := 1) dl_245 rfl rfl ?_
  refine lz_bipush (v := nI 11) dl_246 (by decide) ?_
  refine lz_callV (k2 := 63) (vs := [(nI 11)]) dl_248 lk_15_12 ok_63 rfl rfl rfl (Nat.le_of_ble_eq_true rfl) rfl rfl rfl rfl ⟨(Nat.le_of_ble_eq_true rfl), (Nat.le_of_ble_eq_true rfl)⟩ (Nat.le_of_ble_eq_true rfl) ?_
  refine pc_cnt hC (by decide) (fun A hC => ?_)
  refine lz_aload_n (i := 1) dl_251 rfl rfl ?_
  refine lz_bipush (v := nI 18) dl_252 (by decide) ?_
  refine lz_callV (k2 := 63) (vs := [(nI 18)]) dl_254 lk_15_12 ok_63 rfl rfl rfl (Nat.le_of_ble_eq_true rfl) rfl rfl rfl rfl ⟨(Nat.le_of_ble_eq_true rfl), (Nat.le_of_ble_eq_true rfl)⟩ (Nat.le_of_ble_eq_true rfl) ?_
  refine pc_cnt hC (by decide) (fun A hC => ?_)
  refine lz_icmp_gt (tgt := 278) dl_257 rfl (fun h9 => absurd h9 (Int32.not_lt.mpr (ct_11 ho))) (fun _ => ?_)
  refine lz_aload_n (i := 1) dl_260 rfl rfl ?_
  refine lz_bipush (v := nI 11) dl_261 (by decide) ?_
  refine lz_callV (k2 := 63) (vs := [(nI 11)]) dl_263 lk_15_12 ok_63 rfl rfl rfl (Nat.le_of_ble_eq_true rfl) rfl rfl rfl rfl ⟨(Nat.le_of_ble_eq_true rfl), (Nat.le_of_ble_eq_true rfl)⟩ (Nat.le_of_ble_eq_true rfl) ?_
  refine pc_cnt hC (by decide) (fun A hC => ?_)
  refine lz_if_ne (tgt := 280) dl_266 rfl (fun c_266 => ?_) (fun c_266 => ?_)
  · refine lz_pick [0, 1, 2, 3] (L2 := l0 σ e) rfl ?_
    exact k A hC
  · refine lz_aload_n (i := 1) dl_269 rfl rfl ?_
    refine lz_bipush (v := nI 12) dl_270 (by decide) ?_
    refine lz_callV (k2 := 63) (vs := [(nI 12)]) dl_272 lk_15_12 ok_63 rfl rfl rfl (Nat.le_of_ble_eq_true rfl) rfl rfl rfl rfl ⟨(Nat.le_of_ble_eq_true rfl), (Nat.le_of_ble_eq_true rfl)⟩ (Nat.le_of_ble_eq_true rfl) ?_
    refine pc_cnt hC (by decide) (fun A hC => ?_)
    refine lz_if_le (tgt := 280) dl_275 rfl (fun _ => ?_) (fun h9 => absurd (ct_11b ho c_266) h9)
    refine lz_pick [0, 1, 2, 3] (L2 := l0 σ e) rfl ?_
    exact k A hC
theorem lz_d {N : Nat} {xs : Nat → Int32} {σ : Sig} {e : Nat} {A : Mem} (hC : CW σ A) (k : ∀ A, CW σ A → lz_P N xs 359 (l0 σ e) [] A) : lz_P N xs 280 (l0 σ e) [] A := by
  have ho := hC.1.1
  refine lz_aload_n (i := 1) dl_280 rfl rfl ?_
  refine lz_iconst (v := nI 0) dl_281 (by decide) ?_
  refine lz_callV (k2 := 78) (vs := [(nI 0)]) dl_282 lk_15_69 ok_78 rfl rfl rfl (Nat.le_of_ble_eq_true rfl) rfl rfl rfl rfl ⟨(Nat.le_of_ble_eq_true rfl), (Nat.le_of_ble_eq_true rfl)⟩ (Nat.le_of_ble_eq_true rfl) ?_
  refine pc_78 hC (fun A hC => ?_)
  refine lz_istore (L2 := [(0, _), (1, _), (2, _), (3, _), (9, _)]) dl_285 (by decide) rfl ?_
  refine lz_iload dl_287 rfl ?_
  refine lz_if_lt (tgt := 359) dl_289 rfl (fun c_289 => ?_) (fun c_289 => ?_)
  · refine lz_pick [0, 1, 2, 3] (L2 := l0 σ e) rfl ?_
    exact k A hC
  · refine lz_iload dl_292 rfl ?_
    refine lz_i2l dl_294 rfl ?_
    refine lz_aload_n (i := 1) dl_295 rfl rfl ?_
    refine lz_bipush (v := nI 14) dl_296 (by decide) ?_
    refine lz_callV (k2 := 63) (vs := [(nI 14)]) dl_298 lk_15_12 ok_63 rfl rfl rfl (Nat.le_of_ble_eq_true rfl) rfl rfl rfl rfl ⟨(Nat.le_of_ble_eq_true rfl), (Nat.le_of_ble_eq_true rfl)⟩ (Nat.le_of_ble_eq_true rfl) ?_
    refine pc_cnt hC (by decide) (fun A hC => ?_)
    refine lz_i2l dl_301 rfl ?_
    refine lz_lmul dl_302 ?_
    refine lz_lstore (L2 := [(0, _), (1, _), (2, _), (3, _), (9, _), (10, _)]) dl_303 (by decide) rfl ?_
    refine lz_aload_n (i := 1) dl_305 rfl rfl ?_
    refine lz_iconst (v := nI 3) dl_306 (by decide) ?_
    refine lz_callV (k2 := 78) (vs := [(nI 3)]) dl_307 lk_15_69 ok_78 rfl rfl rfl (Nat.le_of_ble_eq_true rfl) rfl rfl rfl rfl ⟨(Nat.le_of_ble_eq_true rfl), (Nat.le_of_ble_eq_true rfl)⟩ (Nat.le_of_ble_eq_true rfl) ?_
    refine pc_78 hC (fun A hC => ?_)
    refine lz_i2l dl_310 rfl ?_
    refine lz_aload_n (i := 1) dl_311 rfl rfl ?_
    refine lz_iconst (v := nI 1) dl_312 (by decide) ?_
    refine lz_callV (k2 := 78) (vs := [(nI 1)]) dl_313 lk_15_69 ok_78 rfl rfl rfl (Nat.le_of_ble_eq_true rfl) rfl rfl rfl rfl ⟨(Nat.le_of_ble_eq_true rfl), (Nat.le_of_ble_eq_true rfl)⟩ (Nat.le_of_ble_eq_true rfl) ?_
    refine pc_78 hC (fun A hC => ?_)
    refine lz_i2l dl_316 rfl ?_
    refine lz_ladd dl_317 ?_
    refine lz_lstore (L2 := [(0, _), (1, _), (2, _), (3, _), (9, _), (10, _), (12, _)]) dl_318 (by decide) rfl ?_
    refine lz_lload dl_320 rfl ?_
    refine lz_lload dl_322 rfl ?_
    refine lz_lcmp dl_324 ?_
    refine lz_if_gt (tgt := 357) dl_325 rfl (fun h9 => absurd h9 (Int32.not_lt.mpr (sk_a ho c_289))) (fun _ => ?_)
    refine lz_iload dl_328 rfl ?_
    refine lz_aload_n (i := 1) dl_330 rfl rfl ?_
    refine lz_bipush (v := nI 8) dl_331 (by decide) ?_
    refine lz_callV (k2 := 63) (vs := [(nI 8)]) dl_333 lk_15_12 ok_63 rfl rfl rfl (Nat.le_of_ble_eq_true rfl) rfl rfl rfl rfl ⟨(Nat.le_of_ble_eq_true rfl), (Nat.le_of_ble_eq_true rfl)⟩ (Nat.le_of_ble_eq_true rfl) ?_
    refine pc_cnt hC (by decide) (fun A hC => ?_)
    refine lz_icmp_gt (tgt := 357) dl_336 rfl (fun h9 => absurd h9 (Int32.not_lt.mpr (sk_b ho c_289))) (fun _ => ?_)
    refine lz_aload_n (i := 1) dl_339 rfl rfl ?_
    refine lz_bipush (v := nI 8) dl_340 (by decide) ?_
    refine lz_callV (k2 := 63) (vs := [(nI 8)]) dl_342 lk_15_12 ok_63 rfl rfl rfl (Nat.le_of_ble_eq_true rfl) rfl rfl rfl rfl ⟨(Nat.le_of_ble_eq_true rfl), (Nat.le_of_ble_eq_true rfl)⟩ (Nat.le_of_ble_eq_true rfl) ?_
    refine pc_cnt hC (by decide) (fun A hC => ?_)
    refine lz_if_le (tgt := 359) dl_345 rfl (fun c_345 => ?_) (fun c_345 => ?_)
    · refine lz_pick [0, 1, 2, 3] (L2 := l0 σ e) rfl ?_
      exact k A hC
    · refine lz_aload_n (i := 1) dl_348 rfl rfl ?_
      refine lz_iconst (v := nI 2) dl_349 (by decide) ?_
      refine lz_callV (k2 := 78) (vs := [(nI 2)]) dl_350 lk_15_69 ok_78 rfl rfl rfl (Nat.le_of_ble_eq_true rfl) rfl rfl rfl rfl ⟨(Nat.le_of_ble_eq_true rfl), (Nat.le_of_ble_eq_true rfl)⟩ (Nat.le_of_ble_eq_true rfl) ?_
      refine pc_78 hC (fun A hC => ?_)
      refine lz_iconst (v := 1) dl_353 (by decide) ?_
      refine lz_icmp_ge (tgt := 359) dl_354 rfl (fun _ => ?_) (fun h9 => absurd (sk_c ho c_289 c_345) h9)
      refine lz_pick [0, 1, 2, 3] (L2 := l0 σ e) rfl ?_
      exact k A hC
theorem lz_e {N : Nat} {xs : Nat → Int32} {σ : Sig} {e : Nat} {A : Mem} (hC : CW σ A) (k : ∀ A, CW σ A → lz_P N xs 413 (l0 σ e) [] A) : lz_P N xs 359 (l0 σ e) [] A := by
  have ho := hC.1.1
  refine lz_aload_n (i := 1) dl_359 rfl rfl ?_
  refine lz_callV (k2 := 77) (vs := []) dl_360 lk_15_72 ok_77 rfl rfl rfl (Nat.le_of_ble_eq_true rfl) rfl rfl rfl rfl ⟨(Nat.le_of_ble_eq_true rfl), (Nat.le_of_ble_eq_true rfl)⟩ (Nat.le_of_ble_eq_true rfl) ?_
  refine pc_77 hC (fun A hC => ?_)
  refine lz_istore (L2 := [(0, _), (1, _), (2, _), (3, _), (10, _)]) dl_363 (by decide) rfl ?_
  refine lz_iload dl_365 rfl ?_
  refine lz_if_lt (tgt := 391) dl_367 rfl (fun c_367 => ?_) (fun c_367 => ?_)
  · refine lz_iload dl_391 rfl ?_
    refine lz_if_ge (tgt := 413) dl_393 rfl (fun h9 => absurd c_367 (Int32.not_lt.mpr h9)) (fun _ => ?_)
    refine lz_aload_n (i := 1) dl_396 rfl rfl ?_
    refine lz_bipush (v := nI 8) dl_397 (by decide) ?_
    refine lz_callV (k2 := 63) (vs := [(nI 8)]) dl_399 lk_15_12 ok_63 rfl rfl rfl (Nat.le_of_ble_eq_true rfl) rfl rfl rfl rfl ⟨(Nat.le_of_ble_eq_true rfl), (Nat.le_of_ble_eq_true rfl)⟩ (Nat.le_of_ble_eq_true rfl) ?_
    refine pc_cnt hC (by decide) (fun A hC => ?_)
    refine lz_aload_n (i := 1) dl_402 rfl rfl ?_
    refine lz_bipush (v := nI 11) dl_403 (by decide) ?_
    refine lz_callV (k2 := 63) (vs := [(nI 11)]) dl_405 lk_15_12 ok_63 rfl rfl rfl (Nat.le_of_ble_eq_true rfl) rfl rfl rfl rfl ⟨(Nat.le_of_ble_eq_true rfl), (Nat.le_of_ble_eq_true rfl)⟩ (Nat.le_of_ble_eq_true rfl) ?_
    refine pc_cnt hC (by decide) (fun A hC => ?_)
    refine lz_icmp_le (tgt := 413) dl_408 rfl (fun _ => ?_) (fun h9 => absurd (wo_b ho c_367) h9)
    refine lz_pick [0, 1, 2, 3] (L2 := l0 σ e) rfl ?_
    exact k A hC
  · refine lz_aload_n (i := 1) dl_370 rfl rfl ?_
    refine lz_iload dl_371 rfl ?_
    refine lz_iconst (v := nI 4) dl_373 (by decide) ?_
    refine lz_callV (k2 := 71) (vs := [(aWorst σ.1), (nI 4)]) dl_374 lk_15_20 ok_71 rfl rfl rfl (Nat.le_of_ble_eq_true rfl) rfl rfl rfl rfl ⟨(Nat.le_of_ble_eq_true rfl), (Nat.le_of_ble_eq_true rfl)⟩ (Nat.le_of_ble_eq_true rfl) ?_
    refine pc_71 hC (fun A hC => ?_)
    refine lz_iconst (v := 1) dl_377 (by decide) ?_
    refine lz_icmp_ne (tgt := 411) dl_378 rfl (fun h9 => absurd (wo_a ho c_367).1 h9) (fun _ => ?_)
    refine lz_aload_n (i := 1) dl_381 rfl rfl ?_
    refine lz_iload dl_382 rfl ?_
    refine lz_iconst (v := nI 5) dl_384 (by decide) ?_
    refine lz_callV (k2 := 71) (vs := [(aWorst σ.1), (nI 5)]) dl_385 lk_15_20 ok_71 rfl rfl rfl (Nat.le_of_ble_eq_true rfl) rfl rfl rfl rfl ⟨(Nat.le_of_ble_eq_true rfl), (Nat.le_of_ble_eq_true rfl)⟩ (Nat.le_of_ble_eq_true rfl) ?_
    refine pc_71 hC (fun A hC => ?_)
    refine lz_if_ne (tgt := 411) dl_388 rfl (fun h9 => absurd (wo_a ho c_367).2 h9) (fun _ => ?_)
    refine lz_iload dl_391 rfl ?_
    refine lz_if_ge (tgt := 413) dl_393 rfl (fun _ => ?_) (fun h9 => absurd (Int32.not_lt.mp c_367) h9)
    refine lz_pick [0, 1, 2, 3] (L2 := l0 σ e) rfl ?_
    exact k A hC
theorem lg_self (x : Int64) : lg_cmp x x = 0 := by
  have h1 := (lg_cmp_le x x).mpr (Int64.le_refl x)
  have h2 := (lg_cmp_ge x x).mpr (Int64.le_refl x)
  exact Int32.le_antisymm h1 h2
theorem hp_1 {H : Hst} {s : Stt} (h6 : H.1 ≤ 6) : (hpush H s).1 = (if H.1 < 6 then H.1 + 1 else 6) ∧ 1 ≤ (hpush H s).1 ∧ (hpush H s).1 ≤ 6 ∧ (hpush H s).2 ((hpush H s).1 - 1) = s := by
  unfold hpush
  by_cases q : H.1 < 6
  · rw [if_pos q, if_pos q]
    dsimp only
    exact ⟨rfl, by omega, by omega, by rw [Nat.add_sub_cancel]; exact uN_at _ _ _⟩
  · rw [if_neg q, if_neg q]
    dsimp only
    exact ⟨rfl, by omega, by omega, uN_at _ _ _⟩
theorem pc_undo {s s2 : Stt} {H : Hst} {x : Txt} {A : Mem} {Q : Int32 → Mem → Prop} (h6 : H.1 ≤ 6) (hC : CW (s2, hpush H s, x) A) (h : ∀ A2, CW (s, ((hpush H s).1 - 1, (hpush H s).2), x) A2 → Q (nI ((hpush H s).1 - 1)) A2) : pm_P 64 0 [(0, .ref 0)] [] A Q := by
  obtain ⟨-, p1, p2, p3⟩ := hp_1 (s := s) h6
  refine pc_64 hC (fun A2 h2 => ?_)
  have e : aUndo (s2, hpush H s, x) = (nI ((hpush H s).1 - 1), (s, ((hpush H s).1 - 1, (hpush H s).2), x)) := by
    unfold aUndo
    rw [if_neg (show ¬ (hpush H s).1 = 0 by omega)]
    show (nI ((hpush H s).1 - 1), ((hpush H s).2 ((hpush H s).1 - 1), ((hpush H s).1 - 1, (hpush H s).2), x)) = _
    rw [p3]
  rw [e] at h2 ⊢
  exact h A2 h2
theorem lz_p {N : Nat} {xs : Nat → Int32} {s : Stt} {H : Hst} {x : Txt} {τ : Sig} {r v : Int32} {e : Nat} {A : Mem} (h6 : H.1 ≤ 6) (hD : DR (s, H, x) r τ) (hC : CW τ A) (k : ∀ (τ : Sig) (A : Mem), CW τ A → lz_P N xs 120 (l0 τ e) [] A) : lz_P N xs 39 [(0, .ref 0), (1, .ref 1), (2, .int (nI H.1)), (3, .int (nI e)), (4, .int v), (5, .long (tale (s, H, x))), (7, .int r)] [] A := by
  rcases hD with ⟨hr, e1⟩ | ⟨hr, s2, e1⟩
  · rw [e1] at hC
    refine lz_iload dl_39 rfl ?_
    refine lz_if_ge (tgt := 56) dl_41 rfl (fun h9 => absurd hr (Int32.not_lt.mpr h9)) (fun _ => ?_)
    refine lz_aload_n (i := 1) dl_44 rfl rfl ?_
    refine lz_callL (k2 := 190) (As := [.ref 0]) (Bs := [.ref 1]) dl_45 lk_15_58 ok_190 rfl rfl (fun _ _ => rfl) rfl (Nat.le_of_ble_eq_true rfl) rfl rfl ⟨(Nat.le_of_ble_eq_true rfl), (Nat.le_of_ble_eq_true rfl)⟩ (Nat.le_of_ble_eq_true rfl) ?_
    refine sp_190 hC (fun A hC => ?_)
    refine lz_lload dl_48 rfl ?_
    refine lz_lcmp dl_50 ?_
    refine lz_if_eq (tgt := 56) dl_51 rfl (fun _ => ?_) (fun h9 => absurd (lg_self _) h9)
    refine lz_iload dl_56 rfl ?_
    refine lz_if_ge (tgt := 65) dl_58 rfl (fun h9 => absurd hr (Int32.not_lt.mpr h9)) (fun _ => ?_)
    refine lz_iload_n (i := 2) dl_61 rfl rfl ?_
    refine lz_goto (tgt := 79) dl_62 rfl ?_
    refine lz_istore_n (i := 2) (L2 := [(0, _), (1, _), (2, _), (3, _), (4, _), (5, _), (7, _)]) dl_79 rfl (by decide) rfl ?_
    refine lz_iload dl_80 rfl ?_
    refine lz_if_lt (tgt := 120) dl_82 rfl (fun _ => ?_) (fun h9 => absurd hr h9)
    refine lz_pick [0, 1, 2, 3] (L2 := l0 (s, H, x) e) rfl ?_
    exact k _ A hC
  · rw [e1] at hC
    have hC : CW (s2, hpush H s, x) A := hC
    obtain ⟨p0, p1, p2, p3⟩ := hp_1 (s := s) h6
    have tail : ∀ (y : Int32) (A : Mem), CW (s2, hpush H s, x) A → y = nI (hpush H s).1 → lz_P N xs 79 [(0, .ref 0), (1, .ref 1), (2, .int (nI H.1)), (3, .int (nI e)), (4, .int v), (5, .long (tale (s, H, x))), (7, .int r)] [.int y] A := by
      intro y A hC ey
      subst ey
      refine lz_istore_n (i := 2) (L2 := [(0, _), (1, _), (2, _), (3, _), (4, _), (5, _), (7, _)]) dl_79 rfl (by decide) rfl ?_
      refine lz_iload dl_80 rfl ?_
      refine lz_if_lt (tgt := 120) dl_82 rfl (fun h9 => absurd h9 hr) (fun _ => ?_)
      refine lz_iload dl_85 rfl ?_
      refine lz_bipush (v := 27) dl_87 (by decide) ?_
      refine lz_ishr dl_89 ?_
      refine lz_iconst (v := 3) dl_90 (by decide) ?_
      refine lz_iand dl_91 ?_
      refine lz_if_ne (tgt := 120) dl_92 rfl (fun c_92 => ?_) (fun c_92 => ?_)
      · refine lz_pick [0, 1, 2, 3] (L2 := l0 (s2, hpush H s, x) e) rfl ?_
        exact k _ A hC
      · refine lz_aload_n (i := 1) dl_95 rfl rfl ?_
        refine lz_callV (k2 := 64) (vs := []) dl_96 lk_15_66 ok_64 rfl rfl rfl (Nat.le_of_ble_eq_true rfl) rfl rfl rfl rfl ⟨(Nat.le_of_ble_eq_true rfl), (Nat.le_of_ble_eq_true rfl)⟩ (Nat.le_of_ble_eq_true rfl) ?_
        refine pc_undo h6 hC (fun A hC => ?_)
        refine lz_iload_n (i := 2) dl_99 rfl rfl ?_
        refine lz_iconst (v := 1) dl_100 (by decide) ?_
        refine lz_isub dl_101 ?_
        refine lz_icmp_ne (tgt := 115) dl_102 rfl (fun h9 => absurd (show nI ((hpush H s).1 - 1) = nI (hpush H s).1 - nI 1 from (nI_sub p1).symm) h9) (fun _ => ?_)
        refine lz_aload_n (i := 1) dl_105 rfl rfl ?_
        refine lz_callL (k2 := 190) (As := [.ref 0]) (Bs := [.ref 1]) dl_106 lk_15_58 ok_190 rfl rfl (fun _ _ => rfl) rfl (Nat.le_of_ble_eq_true rfl) rfl rfl ⟨(Nat.le_of_ble_eq_true rfl), (Nat.le_of_ble_eq_true rfl)⟩ (Nat.le_of_ble_eq_true rfl) ?_
        refine sp_190 hC (fun A hC => ?_)
        refine lz_lload dl_109 rfl ?_
        refine lz_lcmp dl_111 ?_
        refine lz_if_eq (tgt := 117) dl_112 rfl (fun _ => ?_) (fun h9 => absurd (by rw [tale_H (H2 := H)]; exact lg_self _) h9)
        refine lz_iinc (v := nI ((hpush H s).1 - 1)) (L2 := [(0, _), (1, _), (2, _), (3, _), (4, _), (5, _), (7, _)]) dl_117 rfl (by rw [show (hpush H s).1 = ((hpush H s).1 - 1) + 1 by omega]; exact nI_dec _) (by decide) rfl ?_
        refine lz_pick [0, 1, 2, 3] (L2 := l0 (s, ((hpush H s).1 - 1, (hpush H s).2), x) e) rfl ?_
        exact k _ A hC
    refine lz_iload dl_39 rfl ?_
    refine lz_if_ge (tgt := 56) dl_41 rfl (fun _ => ?_) (fun h9 => absurd (Int32.not_lt.mp hr) h9)
    refine lz_iload dl_56 rfl ?_
    refine lz_if_ge (tgt := 65) dl_58 rfl (fun _ => ?_) (fun h9 => absurd (Int32.not_lt.mp hr) h9)
    refine lz_iload_n (i := 2) dl_65 rfl rfl ?_
    refine lz_bipush (v := 6) dl_66 (by decide) ?_
    refine lz_icmp_ge (tgt := 77) dl_68 rfl (fun c_68 => ?_) (fun c_68 => ?_)
    · refine lz_bipush (v := 6) dl_77 (by decide) ?_
      exact tail _ A hC (by rw [p0, if_neg (Nat.not_lt.mpr ((nI_le_iff (a := 6) (by omega) (by omega)).mp c_68))]; rfl)
    · refine lz_iload_n (i := 2) dl_71 rfl rfl ?_
      refine lz_iconst (v := 1) dl_72 (by decide) ?_
      refine lz_iadd dl_73 ?_
      refine lz_goto (tgt := 79) dl_74 rfl ?_
      exact tail _ A hC (by rw [p0, if_pos (Nat.lt_of_not_le (fun q => c_68 ((nI_le_iff (a := 6) (by omega) (by omega)).mpr q)))]; show nI H.1 + nI 1 = _; rw [nI_add])
theorem lz_f {N : Nat} {xs : Nat → Int32} {σ : Sig} {e : Nat} {A : Mem} (hC : CW σ A) : lz_P N xs 419 (l0 σ e) [] A := by
  have ho := hC.1.1
  refine lz_aload_n (i := 1) dl_419 rfl rfl ?_
  refine lz_iconst (v := 1) dl_420 (by decide) ?_
  refine lz_aload_n (i := 0) dl_421 rfl rfl ?_
  refine lz_bipush (v := nI 40) dl_422 (by decide) ?_
  refine lz_cell (i := 40) dl_424 lk_15_54 ok_188 rfl (by omega) ⟨(Nat.le_of_ble_eq_true rfl), (Nat.le_of_ble_eq_true rfl)⟩ (Nat.le_of_ble_eq_true rfl) ?_
  refine lz_bipush (v := nI 60) dl_427 (by decide) ?_
  refine lz_callS (k2 := 189) (As := [.int (cellV N xs 40), .int (nI 60)]) (Bs := [.int (cellV N xs 40), .int (nI 60)]) dl_429 lk_15_26 ok_189 rfl rfl (fun _ _ => rfl) rfl (Nat.le_of_ble_eq_true rfl) rfl rfl ⟨(Nat.le_of_ble_eq_true rfl), (Nat.le_of_ble_eq_true rfl)⟩ (Nat.le_of_ble_eq_true rfl) ?_
  refine sp_189 (by decide) ?_
  refine lz_iadd dl_432 ?_
  refine lz_callV (k2 := 79) (vs := [(1 + (lowV (cellV N xs 40) (nI 60)))]) dl_433 lk_15_75 ok_79 rfl rfl rfl (Nat.le_of_ble_eq_true rfl) rfl rfl rfl rfl ⟨(Nat.le_of_ble_eq_true rfl), (Nat.le_of_ble_eq_true rfl)⟩ (Nat.le_of_ble_eq_true rfl) ?_
  refine pc_79 hC (fun A hC => ?_)
  refine lz_istore_n (i := 3) (L2 := [(0, _), (1, _), (2, _), (3, _)]) dl_436 rfl (by decide) rfl ?_
  refine lz_iload_n (i := 3) dl_437 rfl rfl ?_
  refine lz_if_lt (tgt := 484) dl_438 rfl (fun c_438 => ?_) (fun c_438 => ?_)
  · exact lz_end dl_484 dl_485
  · refine lz_iconst (v := 1) dl_441 (by decide) ?_
    refine lz_aload_n (i := 0) dl_442 rfl rfl ?_
    refine lz_bipush (v := nI 40) dl_443 (by decide) ?_
    refine lz_cell (i := 40) dl_445 lk_15_54 ok_188 rfl (by omega) ⟨(Nat.le_of_ble_eq_true rfl), (Nat.le_of_ble_eq_true rfl)⟩ (Nat.le_of_ble_eq_true rfl) ?_
    refine lz_bipush (v := nI 60) dl_448 (by decide) ?_
    refine lz_callS (k2 := 189) (As := [.int (cellV N xs 40), .int (nI 60)]) (Bs := [.int (cellV N xs 40), .int (nI 60)]) dl_450 lk_15_26 ok_189 rfl rfl (fun _ _ => rfl) rfl (Nat.le_of_ble_eq_true rfl) rfl rfl ⟨(Nat.le_of_ble_eq_true rfl), (Nat.le_of_ble_eq_true rfl)⟩ (Nat.le_of_ble_eq_true rfl) ?_
    refine sp_189 (by decide) ?_
    refine lz_iadd dl_453 ?_
    refine lz_istore (L2 := [(0, _), (1, _), (2, _), (3, _), (4, _)]) dl_454 (by decide) rfl ?_
    refine lz_aload_n (i := 1) dl_456 rfl rfl ?_
    refine lz_iload_n (i := 3) dl_457 rfl rfl ?_
    refine lz_callV (k2 := 60) (vs := [(aRadFor σ.1 (1 + (lowV (cellV N xs 40) (nI 60))))]) dl_458 lk_15_34 ok_60 rfl rfl rfl (Nat.le_of_ble_eq_true rfl) rfl rfl rfl rfl ⟨(Nat.le_of_ble_eq_true rfl), (Nat.le_of_ble_eq_true rfl)⟩ (Nat.le_of_ble_eq_true rfl) ?_
    refine pc_60 hC (fun A hC => ?_)
    refine lz_if_lt (tgt := 482) dl_461 rfl (fun h9 => absurd h9 (rf_ok ho c_438).1) (fun _ => ?_)
    refine lz_aload_n (i := 1) dl_464 rfl rfl ?_
    refine lz_iconst (v := nI 0) dl_465 (by decide) ?_
    refine lz_callV (k2 := 78) (vs := [(nI 0)]) dl_466 lk_15_69 ok_78 rfl rfl rfl (Nat.le_of_ble_eq_true rfl) rfl rfl rfl rfl ⟨(Nat.le_of_ble_eq_true rfl), (Nat.le_of_ble_eq_true rfl)⟩ (Nat.le_of_ble_eq_true rfl) ?_
    refine pc_78 hC (fun A hC => ?_)
    refine lz_iload dl_469 rfl ?_
    refine lz_icmp_gt (tgt := 482) dl_471 rfl (fun h9 => absurd h9 (Int32.not_lt.mpr (rf_ok ho c_438).2.1)) (fun _ => ?_)
    refine lz_aload_n (i := 1) dl_474 rfl rfl ?_
    refine lz_iconst (v := nI 0) dl_475 (by decide) ?_
    refine lz_callV (k2 := 78) (vs := [(nI 0)]) dl_476 lk_15_69 ok_78 rfl rfl rfl (Nat.le_of_ble_eq_true rfl) rfl rfl rfl rfl ⟨(Nat.le_of_ble_eq_true rfl), (Nat.le_of_ble_eq_true rfl)⟩ (Nat.le_of_ble_eq_true rfl) ?_
    refine pc_78 hC (fun A hC => ?_)
    refine lz_if_ge (tgt := 484) dl_479 rfl (fun _ => ?_) (fun h9 => absurd (Int32.not_lt.mp (rf_ok ho c_438).2.2) h9)
    exact lz_end dl_484 dl_485
theorem lz_loop {N : Nat} {xs : Nat → Int32} : ∀ e, e ≤ 36 → ∀ (σ : Sig) (A : Mem), CW σ A → lz_P N xs 12 (l0 σ e) [] A := by
  refine up_ind (fun e he ih σ A hC => ?_)
  obtain ⟨s, H, x⟩ := σ
  have h6 : H.1 ≤ 6 := hC.2.1.1
  refine lz_iload_n (i := 3) dl_12 rfl rfl ?_
  refine lz_bipush (v := nI 36) dl_13 (by decide) ?_
  refine lz_icmp_ge (tgt := 419) dl_15 rfl (fun _ => lz_f hC) (fun h9 => ?_)
  have h8 : e < 36 := by
    rcases Nat.lt_or_ge e 36 with q | q
    · exact q
    · exact absurd ((nI_le_iff (a := 36) (by omega) (by omega)).mpr q) h9
  refine lz_aload_n (i := 0) dl_18 rfl rfl ?_
  refine lz_iload_n (i := 3) dl_19 rfl rfl ?_
  refine lz_cell (i := e) dl_20 lk_15_54 ok_188 rfl (by omega) ⟨(Nat.le_of_ble_eq_true rfl), (Nat.le_of_ble_eq_true rfl)⟩ (Nat.le_of_ble_eq_true rfl) ?_
  refine lz_istore (L2 := [(0, _), (1, _), (2, _), (3, _), (4, _)]) dl_23 (by decide) rfl ?_
  refine lz_aload_n (i := 1) dl_25 rfl rfl ?_
  refine lz_callL (k2 := 190) (As := [.ref 0]) (Bs := [.ref 1]) dl_26 lk_15_58 ok_190 rfl rfl (fun _ _ => rfl) rfl (Nat.le_of_ble_eq_true rfl) rfl rfl ⟨(Nat.le_of_ble_eq_true rfl), (Nat.le_of_ble_eq_true rfl)⟩ (Nat.le_of_ble_eq_true rfl) ?_
  refine sp_190 hC (fun A hC => ?_)
  refine lz_lstore (L2 := [(0, _), (1, _), (2, _), (3, _), (4, _), (5, _)]) dl_29 (by decide) rfl ?_
  refine lz_aload_n (i := 1) dl_31 rfl rfl ?_
  refine lz_iload dl_32 rfl ?_
  refine lz_callS (k2 := 191) (As := [.ref 0, .int (cellV N xs e)]) (Bs := [.ref 1, .int (cellV N xs e)]) dl_34 lk_15_62 ok_191 rfl rfl (fun _ _ => rfl) rfl (Nat.le_of_ble_eq_true rfl) rfl rfl ⟨(Nat.le_of_ble_eq_true rfl), (Nat.le_of_ble_eq_true rfl)⟩ (Nat.le_of_ble_eq_true rfl) ?_
  refine sp_191 hC (fun r τ A hD hC => ?_)
  refine lz_istore (L2 := [(0, _), (1, _), (2, _), (3, _), (4, _), (5, _), (7, _)]) dl_37 (by decide) rfl ?_
  refine lz_p h6 hD hC (fun σ A hC => lz_b hC (fun A hC => lz_c hC (fun A hC => lz_d hC (fun A hC => lz_e hC (fun A hC => ?_)))))
  refine lz_iinc (v := nI (e + 1)) (L2 := [(0, _), (1, _), (2, _), (3, _)]) dl_413 rfl (by show nI e + nI 1 = _; rw [nI_add]) (by decide) rfl ?_
  refine lz_goto (tgt := 12) dl_416 rfl ?_
  exact ih h8 σ A hC
