theorem dl_0 : decode code 0 = .ok (.new 7, 3) := by decide +kernel
theorem dl_3 : decode code 3 = .ok (.dup, 1) := by decide +kernel
theorem dl_4 : decode code 4 = .ok (.invokespecial 9, 3) := by decide +kernel
theorem dl_7 : decode code 7 = .ok (.astore_n 1, 1) := by decide +kernel
theorem dl_8 : decode code 8 = .ok (.new 10, 3) := by decide +kernel
theorem dl_11 : decode code 11 = .ok (.dup, 1) := by decide +kernel
theorem dl_12 : decode code 12 = .ok (.invokespecial 12, 3) := by decide +kernel
theorem dl_15 : decode code 15 = .ok (.astore_n 2, 1) := by decide +kernel
theorem dl_16 : decode code 16 = .ok (.iconst 0, 1) := by decide +kernel
theorem dl_17 : decode code 17 = .ok (.istore_n 3, 1) := by decide +kernel
theorem dl_18 : decode code 18 = .ok (.iload_n 3, 1) := by decide +kernel
theorem dl_19 : decode code 19 = .ok (.aload_n 0, 1) := by decide +kernel
theorem dl_20 : decode code 20 = .ok (.arraylength, 1) := by decide +kernel
theorem dl_21 : decode code 21 = .ok (.iconst 4, 1) := by decide +kernel
theorem dl_22 : decode code 22 = .ok (.isub, 1) := by decide +kernel
theorem dl_23 : decode code 23 = .ok (.if_icmp .gt 766, 3) := by decide +kernel
theorem dl_26 : decode code 26 = .ok (.aload_n 0, 1) := by decide +kernel
theorem dl_27 : decode code 27 = .ok (.iload_n 3, 1) := by decide +kernel
theorem dl_28 : decode code 28 = .ok (.iaload, 1) := by decide +kernel
theorem dl_29 : decode code 29 = .ok (.bipush 31, 2) := by decide +kernel
theorem dl_31 : decode code 31 = .ok (.iand, 1) := by decide +kernel
theorem dl_32 : decode code 32 = .ok (.tableswitch 751 0 24 #[116, 139, 162, 185, 218, 241, 254, 287, 330, 363, 396, 429, 462, 495, 528, 561, 584, 607, 620, 633, 656, 679, 702, 715, 738], 116) := by decide +kernel
theorem dl_148 : decode code 148 = .ok (.aload_n 1, 1) := by decide +kernel
theorem dl_149 : decode code 149 = .ok (.aload_n 0, 1) := by decide +kernel
theorem dl_150 : decode code 150 = .ok (.iload_n 3, 1) := by decide +kernel
theorem dl_151 : decode code 151 = .ok (.iconst 1, 1) := by decide +kernel
theorem dl_152 : decode code 152 = .ok (.iadd, 1) := by decide +kernel
theorem dl_153 : decode code 153 = .ok (.iaload, 1) := by decide +kernel
theorem dl_154 : decode code 154 = .ok (.invokevirtual 13, 3) := by decide +kernel
theorem dl_157 : decode code 157 = .ok (.aload_n 2, 1) := by decide +kernel
theorem dl_158 : decode code 158 = .ok (.aload_n 0, 1) := by decide +kernel
theorem dl_159 : decode code 159 = .ok (.iload_n 3, 1) := by decide +kernel
theorem dl_160 : decode code 160 = .ok (.iconst 1, 1) := by decide +kernel
theorem dl_161 : decode code 161 = .ok (.iadd, 1) := by decide +kernel
theorem dl_162 : decode code 162 = .ok (.iaload, 1) := by decide +kernel
theorem dl_163 : decode code 163 = .ok (.invokevirtual 17, 3) := by decide +kernel
theorem dl_166 : decode code 166 = .ok (.if_icmp .eq 617, 3) := by decide +kernel
theorem dl_169 : decode code 169 = .ok (.iconst 0, 1) := by decide +kernel
theorem dl_170 : decode code 170 = .ok (.ireturn, 1) := by decide +kernel
theorem dl_171 : decode code 171 = .ok (.aload_n 1, 1) := by decide +kernel
theorem dl_172 : decode code 172 = .ok (.aload_n 0, 1) := by decide +kernel
theorem dl_173 : decode code 173 = .ok (.iload_n 3, 1) := by decide +kernel
theorem dl_174 : decode code 174 = .ok (.iconst 1, 1) := by decide +kernel
theorem dl_175 : decode code 175 = .ok (.iadd, 1) := by decide +kernel
theorem dl_176 : decode code 176 = .ok (.iaload, 1) := by decide +kernel
theorem dl_177 : decode code 177 = .ok (.invokevirtual 18, 3) := by decide +kernel
theorem dl_180 : decode code 180 = .ok (.aload_n 2, 1) := by decide +kernel
theorem dl_181 : decode code 181 = .ok (.aload_n 0, 1) := by decide +kernel
theorem dl_182 : decode code 182 = .ok (.iload_n 3, 1) := by decide +kernel
theorem dl_183 : decode code 183 = .ok (.iconst 1, 1) := by decide +kernel
theorem dl_184 : decode code 184 = .ok (.iadd, 1) := by decide +kernel
theorem dl_185 : decode code 185 = .ok (.iaload, 1) := by decide +kernel
theorem dl_186 : decode code 186 = .ok (.invokevirtual 21, 3) := by decide +kernel
theorem dl_189 : decode code 189 = .ok (.if_icmp .eq 594, 3) := by decide +kernel
theorem dl_192 : decode code 192 = .ok (.iconst 0, 1) := by decide +kernel
theorem dl_193 : decode code 193 = .ok (.ireturn, 1) := by decide +kernel
theorem dl_194 : decode code 194 = .ok (.aload_n 1, 1) := by decide +kernel
theorem dl_195 : decode code 195 = .ok (.aload_n 0, 1) := by decide +kernel
theorem dl_196 : decode code 196 = .ok (.iload_n 3, 1) := by decide +kernel
theorem dl_197 : decode code 197 = .ok (.iconst 1, 1) := by decide +kernel
theorem dl_198 : decode code 198 = .ok (.iadd, 1) := by decide +kernel
theorem dl_199 : decode code 199 = .ok (.iaload, 1) := by decide +kernel
theorem dl_200 : decode code 200 = .ok (.invokevirtual 22, 3) := by decide +kernel
theorem dl_203 : decode code 203 = .ok (.aload_n 2, 1) := by decide +kernel
theorem dl_204 : decode code 204 = .ok (.aload_n 0, 1) := by decide +kernel
theorem dl_205 : decode code 205 = .ok (.iload_n 3, 1) := by decide +kernel
theorem dl_206 : decode code 206 = .ok (.iconst 1, 1) := by decide +kernel
theorem dl_207 : decode code 207 = .ok (.iadd, 1) := by decide +kernel
theorem dl_208 : decode code 208 = .ok (.iaload, 1) := by decide +kernel
theorem dl_209 : decode code 209 = .ok (.invokevirtual 25, 3) := by decide +kernel
theorem dl_212 : decode code 212 = .ok (.if_icmp .eq 571, 3) := by decide +kernel
theorem dl_215 : decode code 215 = .ok (.iconst 0, 1) := by decide +kernel
theorem dl_216 : decode code 216 = .ok (.ireturn, 1) := by decide +kernel
theorem dl_217 : decode code 217 = .ok (.aload_n 1, 1) := by decide +kernel
theorem dl_218 : decode code 218 = .ok (.aload_n 0, 1) := by decide +kernel
theorem dl_219 : decode code 219 = .ok (.iload_n 3, 1) := by decide +kernel
theorem dl_220 : decode code 220 = .ok (.iconst 1, 1) := by decide +kernel
theorem dl_221 : decode code 221 = .ok (.iadd, 1) := by decide +kernel
theorem dl_222 : decode code 222 = .ok (.iaload, 1) := by decide +kernel
theorem dl_223 : decode code 223 = .ok (.aload_n 0, 1) := by decide +kernel
theorem dl_224 : decode code 224 = .ok (.iload_n 3, 1) := by decide +kernel
theorem dl_225 : decode code 225 = .ok (.iconst 2, 1) := by decide +kernel
theorem dl_226 : decode code 226 = .ok (.iadd, 1) := by decide +kernel
theorem dl_227 : decode code 227 = .ok (.iaload, 1) := by decide +kernel
theorem dl_228 : decode code 228 = .ok (.invokevirtual 26, 3) := by decide +kernel
theorem dl_231 : decode code 231 = .ok (.aload_n 2, 1) := by decide +kernel
theorem dl_232 : decode code 232 = .ok (.aload_n 0, 1) := by decide +kernel
theorem dl_233 : decode code 233 = .ok (.iload_n 3, 1) := by decide +kernel
theorem dl_234 : decode code 234 = .ok (.iconst 1, 1) := by decide +kernel
theorem dl_235 : decode code 235 = .ok (.iadd, 1) := by decide +kernel
theorem dl_236 : decode code 236 = .ok (.iaload, 1) := by decide +kernel
theorem dl_237 : decode code 237 = .ok (.aload_n 0, 1) := by decide +kernel
theorem dl_238 : decode code 238 = .ok (.iload_n 3, 1) := by decide +kernel
theorem dl_239 : decode code 239 = .ok (.iconst 2, 1) := by decide +kernel
theorem dl_240 : decode code 240 = .ok (.iadd, 1) := by decide +kernel
theorem dl_241 : decode code 241 = .ok (.iaload, 1) := by decide +kernel
theorem dl_242 : decode code 242 = .ok (.invokevirtual 30, 3) := by decide +kernel
theorem dl_245 : decode code 245 = .ok (.if_icmp .eq 538, 3) := by decide +kernel
theorem dl_248 : decode code 248 = .ok (.iconst 0, 1) := by decide +kernel
theorem dl_249 : decode code 249 = .ok (.ireturn, 1) := by decide +kernel
theorem dl_250 : decode code 250 = .ok (.aload_n 1, 1) := by decide +kernel
theorem dl_251 : decode code 251 = .ok (.aload_n 0, 1) := by decide +kernel
theorem dl_252 : decode code 252 = .ok (.iload_n 3, 1) := by decide +kernel
theorem dl_253 : decode code 253 = .ok (.iconst 1, 1) := by decide +kernel
theorem dl_254 : decode code 254 = .ok (.iadd, 1) := by decide +kernel
theorem dl_255 : decode code 255 = .ok (.iaload, 1) := by decide +kernel
theorem dl_256 : decode code 256 = .ok (.invokevirtual 31, 3) := by decide +kernel
theorem dl_259 : decode code 259 = .ok (.aload_n 2, 1) := by decide +kernel
theorem dl_260 : decode code 260 = .ok (.aload_n 0, 1) := by decide +kernel
theorem dl_261 : decode code 261 = .ok (.iload_n 3, 1) := by decide +kernel
theorem dl_262 : decode code 262 = .ok (.iconst 1, 1) := by decide +kernel
theorem dl_263 : decode code 263 = .ok (.iadd, 1) := by decide +kernel
theorem dl_264 : decode code 264 = .ok (.iaload, 1) := by decide +kernel
theorem dl_265 : decode code 265 = .ok (.invokevirtual 34, 3) := by decide +kernel
theorem dl_268 : decode code 268 = .ok (.if_icmp .eq 515, 3) := by decide +kernel
theorem dl_271 : decode code 271 = .ok (.iconst 0, 1) := by decide +kernel
theorem dl_272 : decode code 272 = .ok (.ireturn, 1) := by decide +kernel
theorem dl_273 : decode code 273 = .ok (.aload_n 1, 1) := by decide +kernel
theorem dl_274 : decode code 274 = .ok (.invokevirtual 35, 3) := by decide +kernel
theorem dl_277 : decode code 277 = .ok (.aload_n 2, 1) := by decide +kernel
theorem dl_278 : decode code 278 = .ok (.invokevirtual 39, 3) := by decide +kernel
theorem dl_281 : decode code 281 = .ok (.if_icmp .eq 502, 3) := by decide +kernel
theorem dl_284 : decode code 284 = .ok (.iconst 0, 1) := by decide +kernel
theorem dl_285 : decode code 285 = .ok (.ireturn, 1) := by decide +kernel
theorem dl_286 : decode code 286 = .ok (.aload_n 1, 1) := by decide +kernel
theorem dl_287 : decode code 287 = .ok (.aload_n 0, 1) := by decide +kernel
theorem dl_288 : decode code 288 = .ok (.iload_n 3, 1) := by decide +kernel
theorem dl_289 : decode code 289 = .ok (.iconst 1, 1) := by decide +kernel
theorem dl_290 : decode code 290 = .ok (.iadd, 1) := by decide +kernel
theorem dl_291 : decode code 291 = .ok (.iaload, 1) := by decide +kernel
theorem dl_292 : decode code 292 = .ok (.aload_n 0, 1) := by decide +kernel
theorem dl_293 : decode code 293 = .ok (.iload_n 3, 1) := by decide +kernel
theorem dl_294 : decode code 294 = .ok (.iconst 2, 1) := by decide +kernel
theorem dl_295 : decode code 295 = .ok (.iadd, 1) := by decide +kernel
theorem dl_296 : decode code 296 = .ok (.iaload, 1) := by decide +kernel
theorem dl_297 : decode code 297 = .ok (.invokevirtual 40, 3) := by decide +kernel
theorem dl_300 : decode code 300 = .ok (.aload_n 2, 1) := by decide +kernel
theorem dl_301 : decode code 301 = .ok (.aload_n 0, 1) := by decide +kernel
theorem dl_302 : decode code 302 = .ok (.iload_n 3, 1) := by decide +kernel
theorem dl_303 : decode code 303 = .ok (.iconst 1, 1) := by decide +kernel
theorem dl_304 : decode code 304 = .ok (.iadd, 1) := by decide +kernel
theorem dl_305 : decode code 305 = .ok (.iaload, 1) := by decide +kernel
theorem dl_306 : decode code 306 = .ok (.aload_n 0, 1) := by decide +kernel
theorem dl_307 : decode code 307 = .ok (.iload_n 3, 1) := by decide +kernel
theorem dl_308 : decode code 308 = .ok (.iconst 2, 1) := by decide +kernel
theorem dl_309 : decode code 309 = .ok (.iadd, 1) := by decide +kernel
theorem dl_310 : decode code 310 = .ok (.iaload, 1) := by decide +kernel
theorem dl_311 : decode code 311 = .ok (.invokevirtual 43, 3) := by decide +kernel
theorem dl_314 : decode code 314 = .ok (.if_icmp .eq 469, 3) := by decide +kernel
theorem dl_317 : decode code 317 = .ok (.iconst 0, 1) := by decide +kernel
theorem dl_318 : decode code 318 = .ok (.ireturn, 1) := by decide +kernel
theorem dl_319 : decode code 319 = .ok (.aload_n 1, 1) := by decide +kernel
theorem dl_320 : decode code 320 = .ok (.aload_n 0, 1) := by decide +kernel
theorem dl_321 : decode code 321 = .ok (.iload_n 3, 1) := by decide +kernel
theorem dl_322 : decode code 322 = .ok (.iconst 1, 1) := by decide +kernel
theorem dl_323 : decode code 323 = .ok (.iadd, 1) := by decide +kernel
theorem dl_324 : decode code 324 = .ok (.iaload, 1) := by decide +kernel
theorem dl_325 : decode code 325 = .ok (.aload_n 0, 1) := by decide +kernel
theorem dl_326 : decode code 326 = .ok (.iload_n 3, 1) := by decide +kernel
theorem dl_327 : decode code 327 = .ok (.iconst 2, 1) := by decide +kernel
theorem dl_328 : decode code 328 = .ok (.iadd, 1) := by decide +kernel
theorem dl_329 : decode code 329 = .ok (.iaload, 1) := by decide +kernel
theorem dl_330 : decode code 330 = .ok (.aload_n 0, 1) := by decide +kernel
theorem dl_331 : decode code 331 = .ok (.iload_n 3, 1) := by decide +kernel
theorem dl_332 : decode code 332 = .ok (.iconst 3, 1) := by decide +kernel
theorem dl_333 : decode code 333 = .ok (.iadd, 1) := by decide +kernel
theorem dl_334 : decode code 334 = .ok (.iaload, 1) := by decide +kernel
theorem dl_335 : decode code 335 = .ok (.invokevirtual 44, 3) := by decide +kernel
theorem dl_338 : decode code 338 = .ok (.aload_n 2, 1) := by decide +kernel
theorem dl_339 : decode code 339 = .ok (.aload_n 0, 1) := by decide +kernel
theorem dl_340 : decode code 340 = .ok (.iload_n 3, 1) := by decide +kernel
theorem dl_341 : decode code 341 = .ok (.iconst 1, 1) := by decide +kernel
theorem dl_342 : decode code 342 = .ok (.iadd, 1) := by decide +kernel
theorem dl_343 : decode code 343 = .ok (.iaload, 1) := by decide +kernel
theorem dl_344 : decode code 344 = .ok (.aload_n 0, 1) := by decide +kernel
theorem dl_345 : decode code 345 = .ok (.iload_n 3, 1) := by decide +kernel
theorem dl_346 : decode code 346 = .ok (.iconst 2, 1) := by decide +kernel
theorem dl_347 : decode code 347 = .ok (.iadd, 1) := by decide +kernel
theorem dl_348 : decode code 348 = .ok (.iaload, 1) := by decide +kernel
theorem dl_349 : decode code 349 = .ok (.aload_n 0, 1) := by decide +kernel
theorem dl_350 : decode code 350 = .ok (.iload_n 3, 1) := by decide +kernel
theorem dl_351 : decode code 351 = .ok (.iconst 3, 1) := by decide +kernel
theorem dl_352 : decode code 352 = .ok (.iadd, 1) := by decide +kernel
theorem dl_353 : decode code 353 = .ok (.iaload, 1) := by decide +kernel
theorem dl_354 : decode code 354 = .ok (.invokevirtual 48, 3) := by decide +kernel
theorem dl_357 : decode code 357 = .ok (.if_icmp .eq 426, 3) := by decide +kernel
theorem dl_360 : decode code 360 = .ok (.iconst 0, 1) := by decide +kernel
theorem dl_361 : decode code 361 = .ok (.ireturn, 1) := by decide +kernel
theorem dl_362 : decode code 362 = .ok (.aload_n 1, 1) := by decide +kernel
theorem dl_363 : decode code 363 = .ok (.aload_n 0, 1) := by decide +kernel
theorem dl_364 : decode code 364 = .ok (.iload_n 3, 1) := by decide +kernel
theorem dl_365 : decode code 365 = .ok (.iconst 1, 1) := by decide +kernel
theorem dl_366 : decode code 366 = .ok (.iadd, 1) := by decide +kernel
theorem dl_367 : decode code 367 = .ok (.iaload, 1) := by decide +kernel
theorem dl_368 : decode code 368 = .ok (.aload_n 0, 1) := by decide +kernel
theorem dl_369 : decode code 369 = .ok (.iload_n 3, 1) := by decide +kernel
theorem dl_370 : decode code 370 = .ok (.iconst 2, 1) := by decide +kernel
theorem dl_371 : decode code 371 = .ok (.iadd, 1) := by decide +kernel
theorem dl_372 : decode code 372 = .ok (.iaload, 1) := by decide +kernel
theorem dl_373 : decode code 373 = .ok (.invokevirtual 49, 3) := by decide +kernel
theorem dl_376 : decode code 376 = .ok (.aload_n 2, 1) := by decide +kernel
theorem dl_377 : decode code 377 = .ok (.aload_n 0, 1) := by decide +kernel
theorem dl_378 : decode code 378 = .ok (.iload_n 3, 1) := by decide +kernel
theorem dl_379 : decode code 379 = .ok (.iconst 1, 1) := by decide +kernel
theorem dl_380 : decode code 380 = .ok (.iadd, 1) := by decide +kernel
theorem dl_381 : decode code 381 = .ok (.iaload, 1) := by decide +kernel
theorem dl_382 : decode code 382 = .ok (.aload_n 0, 1) := by decide +kernel
theorem dl_383 : decode code 383 = .ok (.iload_n 3, 1) := by decide +kernel
theorem dl_384 : decode code 384 = .ok (.iconst 2, 1) := by decide +kernel
theorem dl_385 : decode code 385 = .ok (.iadd, 1) := by decide +kernel
theorem dl_386 : decode code 386 = .ok (.iaload, 1) := by decide +kernel
theorem dl_387 : decode code 387 = .ok (.invokevirtual 52, 3) := by decide +kernel
theorem dl_390 : decode code 390 = .ok (.if_icmp .eq 393, 3) := by decide +kernel
theorem dl_393 : decode code 393 = .ok (.iconst 0, 1) := by decide +kernel
theorem dl_394 : decode code 394 = .ok (.ireturn, 1) := by decide +kernel
theorem dl_395 : decode code 395 = .ok (.aload_n 1, 1) := by decide +kernel
theorem dl_396 : decode code 396 = .ok (.aload_n 0, 1) := by decide +kernel
theorem dl_397 : decode code 397 = .ok (.iload_n 3, 1) := by decide +kernel
theorem dl_398 : decode code 398 = .ok (.iconst 1, 1) := by decide +kernel
theorem dl_399 : decode code 399 = .ok (.iadd, 1) := by decide +kernel
theorem dl_400 : decode code 400 = .ok (.iaload, 1) := by decide +kernel
theorem dl_401 : decode code 401 = .ok (.aload_n 0, 1) := by decide +kernel
theorem dl_402 : decode code 402 = .ok (.iload_n 3, 1) := by decide +kernel
theorem dl_403 : decode code 403 = .ok (.iconst 2, 1) := by decide +kernel
theorem dl_404 : decode code 404 = .ok (.iadd, 1) := by decide +kernel
theorem dl_405 : decode code 405 = .ok (.iaload, 1) := by decide +kernel
theorem dl_406 : decode code 406 = .ok (.invokevirtual 53, 3) := by decide +kernel
theorem dl_409 : decode code 409 = .ok (.aload_n 2, 1) := by decide +kernel
theorem dl_410 : decode code 410 = .ok (.aload_n 0, 1) := by decide +kernel
theorem dl_411 : decode code 411 = .ok (.iload_n 3, 1) := by decide +kernel
theorem dl_412 : decode code 412 = .ok (.iconst 1, 1) := by decide +kernel
theorem dl_413 : decode code 413 = .ok (.iadd, 1) := by decide +kernel
theorem dl_414 : decode code 414 = .ok (.iaload, 1) := by decide +kernel
theorem dl_415 : decode code 415 = .ok (.aload_n 0, 1) := by decide +kernel
theorem dl_416 : decode code 416 = .ok (.iload_n 3, 1) := by decide +kernel
theorem dl_417 : decode code 417 = .ok (.iconst 2, 1) := by decide +kernel
theorem dl_418 : decode code 418 = .ok (.iadd, 1) := by decide +kernel
theorem dl_419 : decode code 419 = .ok (.iaload, 1) := by decide +kernel
theorem dl_420 : decode code 420 = .ok (.invokevirtual 56, 3) := by decide +kernel
theorem dl_423 : decode code 423 = .ok (.if_icmp .eq 360, 3) := by decide +kernel
theorem dl_426 : decode code 426 = .ok (.iconst 0, 1) := by decide +kernel
theorem dl_427 : decode code 427 = .ok (.ireturn, 1) := by decide +kernel
theorem dl_428 : decode code 428 = .ok (.aload_n 1, 1) := by decide +kernel
theorem dl_429 : decode code 429 = .ok (.aload_n 0, 1) := by decide +kernel
theorem dl_430 : decode code 430 = .ok (.iload_n 3, 1) := by decide +kernel
theorem dl_431 : decode code 431 = .ok (.iconst 1, 1) := by decide +kernel
theorem dl_432 : decode code 432 = .ok (.iadd, 1) := by decide +kernel
theorem dl_433 : decode code 433 = .ok (.iaload, 1) := by decide +kernel
theorem dl_434 : decode code 434 = .ok (.aload_n 0, 1) := by decide +kernel
theorem dl_435 : decode code 435 = .ok (.iload_n 3, 1) := by decide +kernel
theorem dl_436 : decode code 436 = .ok (.iconst 2, 1) := by decide +kernel
theorem dl_437 : decode code 437 = .ok (.iadd, 1) := by decide +kernel
theorem dl_438 : decode code 438 = .ok (.iaload, 1) := by decide +kernel
theorem dl_439 : decode code 439 = .ok (.invokevirtual 57, 3) := by decide +kernel
theorem dl_442 : decode code 442 = .ok (.aload_n 2, 1) := by decide +kernel
theorem dl_443 : decode code 443 = .ok (.aload_n 0, 1) := by decide +kernel
theorem dl_444 : decode code 444 = .ok (.iload_n 3, 1) := by decide +kernel
theorem dl_445 : decode code 445 = .ok (.iconst 1, 1) := by decide +kernel
theorem dl_446 : decode code 446 = .ok (.iadd, 1) := by decide +kernel
theorem dl_447 : decode code 447 = .ok (.iaload, 1) := by decide +kernel
theorem dl_448 : decode code 448 = .ok (.aload_n 0, 1) := by decide +kernel
theorem dl_449 : decode code 449 = .ok (.iload_n 3, 1) := by decide +kernel
theorem dl_450 : decode code 450 = .ok (.iconst 2, 1) := by decide +kernel
theorem dl_451 : decode code 451 = .ok (.iadd, 1) := by decide +kernel
theorem dl_452 : decode code 452 = .ok (.iaload, 1) := by decide +kernel
theorem dl_453 : decode code 453 = .ok (.invokevirtual 60, 3) := by decide +kernel
theorem dl_456 : decode code 456 = .ok (.if_icmp .eq 327, 3) := by decide +kernel
theorem dl_459 : decode code 459 = .ok (.iconst 0, 1) := by decide +kernel
theorem dl_460 : decode code 460 = .ok (.ireturn, 1) := by decide +kernel
theorem dl_461 : decode code 461 = .ok (.aload_n 1, 1) := by decide +kernel
theorem dl_462 : decode code 462 = .ok (.aload_n 0, 1) := by decide +kernel
theorem dl_463 : decode code 463 = .ok (.iload_n 3, 1) := by decide +kernel
theorem dl_464 : decode code 464 = .ok (.iconst 1, 1) := by decide +kernel
theorem dl_465 : decode code 465 = .ok (.iadd, 1) := by decide +kernel
theorem dl_466 : decode code 466 = .ok (.iaload, 1) := by decide +kernel
theorem dl_467 : decode code 467 = .ok (.aload_n 0, 1) := by decide +kernel
theorem dl_468 : decode code 468 = .ok (.iload_n 3, 1) := by decide +kernel
theorem dl_469 : decode code 469 = .ok (.iconst 2, 1) := by decide +kernel
theorem dl_470 : decode code 470 = .ok (.iadd, 1) := by decide +kernel
theorem dl_471 : decode code 471 = .ok (.iaload, 1) := by decide +kernel
theorem dl_472 : decode code 472 = .ok (.invokevirtual 61, 3) := by decide +kernel
theorem dl_475 : decode code 475 = .ok (.aload_n 2, 1) := by decide +kernel
theorem dl_476 : decode code 476 = .ok (.aload_n 0, 1) := by decide +kernel
theorem dl_477 : decode code 477 = .ok (.iload_n 3, 1) := by decide +kernel
theorem dl_478 : decode code 478 = .ok (.iconst 1, 1) := by decide +kernel
theorem dl_479 : decode code 479 = .ok (.iadd, 1) := by decide +kernel
theorem dl_480 : decode code 480 = .ok (.iaload, 1) := by decide +kernel
theorem dl_481 : decode code 481 = .ok (.aload_n 0, 1) := by decide +kernel
theorem dl_482 : decode code 482 = .ok (.iload_n 3, 1) := by decide +kernel
theorem dl_483 : decode code 483 = .ok (.iconst 2, 1) := by decide +kernel
theorem dl_484 : decode code 484 = .ok (.iadd, 1) := by decide +kernel
theorem dl_485 : decode code 485 = .ok (.iaload, 1) := by decide +kernel
theorem dl_486 : decode code 486 = .ok (.invokevirtual 64, 3) := by decide +kernel
theorem dl_489 : decode code 489 = .ok (.if_icmp .eq 294, 3) := by decide +kernel
theorem dl_492 : decode code 492 = .ok (.iconst 0, 1) := by decide +kernel
theorem dl_493 : decode code 493 = .ok (.ireturn, 1) := by decide +kernel
theorem dl_494 : decode code 494 = .ok (.aload_n 1, 1) := by decide +kernel
theorem dl_495 : decode code 495 = .ok (.aload_n 0, 1) := by decide +kernel
theorem dl_496 : decode code 496 = .ok (.iload_n 3, 1) := by decide +kernel
theorem dl_497 : decode code 497 = .ok (.iconst 1, 1) := by decide +kernel
theorem dl_498 : decode code 498 = .ok (.iadd, 1) := by decide +kernel
theorem dl_499 : decode code 499 = .ok (.iaload, 1) := by decide +kernel
theorem dl_500 : decode code 500 = .ok (.aload_n 0, 1) := by decide +kernel
theorem dl_501 : decode code 501 = .ok (.iload_n 3, 1) := by decide +kernel
theorem dl_502 : decode code 502 = .ok (.iconst 2, 1) := by decide +kernel
theorem dl_503 : decode code 503 = .ok (.iadd, 1) := by decide +kernel
theorem dl_504 : decode code 504 = .ok (.iaload, 1) := by decide +kernel
theorem dl_505 : decode code 505 = .ok (.invokevirtual 65, 3) := by decide +kernel
theorem dl_508 : decode code 508 = .ok (.aload_n 2, 1) := by decide +kernel
theorem dl_509 : decode code 509 = .ok (.aload_n 0, 1) := by decide +kernel
theorem dl_510 : decode code 510 = .ok (.iload_n 3, 1) := by decide +kernel
theorem dl_511 : decode code 511 = .ok (.iconst 1, 1) := by decide +kernel
theorem dl_512 : decode code 512 = .ok (.iadd, 1) := by decide +kernel
theorem dl_513 : decode code 513 = .ok (.iaload, 1) := by decide +kernel
theorem dl_514 : decode code 514 = .ok (.aload_n 0, 1) := by decide +kernel
theorem dl_515 : decode code 515 = .ok (.iload_n 3, 1) := by decide +kernel
theorem dl_516 : decode code 516 = .ok (.iconst 2, 1) := by decide +kernel
theorem dl_517 : decode code 517 = .ok (.iadd, 1) := by decide +kernel
theorem dl_518 : decode code 518 = .ok (.iaload, 1) := by decide +kernel
theorem dl_519 : decode code 519 = .ok (.invokevirtual 68, 3) := by decide +kernel
theorem dl_522 : decode code 522 = .ok (.if_icmp .eq 261, 3) := by decide +kernel
theorem dl_525 : decode code 525 = .ok (.iconst 0, 1) := by decide +kernel
theorem dl_526 : decode code 526 = .ok (.ireturn, 1) := by decide +kernel
theorem dl_527 : decode code 527 = .ok (.aload_n 1, 1) := by decide +kernel
theorem dl_528 : decode code 528 = .ok (.aload_n 0, 1) := by decide +kernel
theorem dl_529 : decode code 529 = .ok (.iload_n 3, 1) := by decide +kernel
theorem dl_530 : decode code 530 = .ok (.iconst 1, 1) := by decide +kernel
theorem dl_531 : decode code 531 = .ok (.iadd, 1) := by decide +kernel
theorem dl_532 : decode code 532 = .ok (.iaload, 1) := by decide +kernel
theorem dl_533 : decode code 533 = .ok (.aload_n 0, 1) := by decide +kernel
theorem dl_534 : decode code 534 = .ok (.iload_n 3, 1) := by decide +kernel
theorem dl_535 : decode code 535 = .ok (.iconst 2, 1) := by decide +kernel
theorem dl_536 : decode code 536 = .ok (.iadd, 1) := by decide +kernel
theorem dl_537 : decode code 537 = .ok (.iaload, 1) := by decide +kernel
theorem dl_538 : decode code 538 = .ok (.invokevirtual 69, 3) := by decide +kernel
theorem dl_541 : decode code 541 = .ok (.aload_n 2, 1) := by decide +kernel
theorem dl_542 : decode code 542 = .ok (.aload_n 0, 1) := by decide +kernel
theorem dl_543 : decode code 543 = .ok (.iload_n 3, 1) := by decide +kernel
theorem dl_544 : decode code 544 = .ok (.iconst 1, 1) := by decide +kernel
theorem dl_545 : decode code 545 = .ok (.iadd, 1) := by decide +kernel
theorem dl_546 : decode code 546 = .ok (.iaload, 1) := by decide +kernel
theorem dl_547 : decode code 547 = .ok (.aload_n 0, 1) := by decide +kernel
theorem dl_548 : decode code 548 = .ok (.iload_n 3, 1) := by decide +kernel
theorem dl_549 : decode code 549 = .ok (.iconst 2, 1) := by decide +kernel
theorem dl_550 : decode code 550 = .ok (.iadd, 1) := by decide +kernel
theorem dl_551 : decode code 551 = .ok (.iaload, 1) := by decide +kernel
theorem dl_552 : decode code 552 = .ok (.invokevirtual 72, 3) := by decide +kernel
theorem dl_555 : decode code 555 = .ok (.if_icmp .eq 228, 3) := by decide +kernel
theorem dl_558 : decode code 558 = .ok (.iconst 0, 1) := by decide +kernel
theorem dl_559 : decode code 559 = .ok (.ireturn, 1) := by decide +kernel
theorem dl_560 : decode code 560 = .ok (.aload_n 1, 1) := by decide +kernel
theorem dl_561 : decode code 561 = .ok (.aload_n 0, 1) := by decide +kernel
theorem dl_562 : decode code 562 = .ok (.iload_n 3, 1) := by decide +kernel
theorem dl_563 : decode code 563 = .ok (.iconst 1, 1) := by decide +kernel
theorem dl_564 : decode code 564 = .ok (.iadd, 1) := by decide +kernel
theorem dl_565 : decode code 565 = .ok (.iaload, 1) := by decide +kernel
theorem dl_566 : decode code 566 = .ok (.aload_n 0, 1) := by decide +kernel
theorem dl_567 : decode code 567 = .ok (.iload_n 3, 1) := by decide +kernel
theorem dl_568 : decode code 568 = .ok (.iconst 2, 1) := by decide +kernel
theorem dl_569 : decode code 569 = .ok (.iadd, 1) := by decide +kernel
theorem dl_570 : decode code 570 = .ok (.iaload, 1) := by decide +kernel
theorem dl_571 : decode code 571 = .ok (.invokevirtual 73, 3) := by decide +kernel
theorem dl_574 : decode code 574 = .ok (.aload_n 2, 1) := by decide +kernel
theorem dl_575 : decode code 575 = .ok (.aload_n 0, 1) := by decide +kernel
theorem dl_576 : decode code 576 = .ok (.iload_n 3, 1) := by decide +kernel
theorem dl_577 : decode code 577 = .ok (.iconst 1, 1) := by decide +kernel
theorem dl_578 : decode code 578 = .ok (.iadd, 1) := by decide +kernel
theorem dl_579 : decode code 579 = .ok (.iaload, 1) := by decide +kernel
theorem dl_580 : decode code 580 = .ok (.aload_n 0, 1) := by decide +kernel
theorem dl_581 : decode code 581 = .ok (.iload_n 3, 1) := by decide +kernel
theorem dl_582 : decode code 582 = .ok (.iconst 2, 1) := by decide +kernel
theorem dl_583 : decode code 583 = .ok (.iadd, 1) := by decide +kernel
theorem dl_584 : decode code 584 = .ok (.iaload, 1) := by decide +kernel
theorem dl_585 : decode code 585 = .ok (.invokevirtual 76, 3) := by decide +kernel
theorem dl_588 : decode code 588 = .ok (.if_icmp .eq 195, 3) := by decide +kernel
theorem dl_591 : decode code 591 = .ok (.iconst 0, 1) := by decide +kernel
theorem dl_592 : decode code 592 = .ok (.ireturn, 1) := by decide +kernel
theorem dl_593 : decode code 593 = .ok (.aload_n 1, 1) := by decide +kernel
theorem dl_594 : decode code 594 = .ok (.aload_n 0, 1) := by decide +kernel
theorem dl_595 : decode code 595 = .ok (.iload_n 3, 1) := by decide +kernel
theorem dl_596 : decode code 596 = .ok (.iconst 1, 1) := by decide +kernel
theorem dl_597 : decode code 597 = .ok (.iadd, 1) := by decide +kernel
theorem dl_598 : decode code 598 = .ok (.iaload, 1) := by decide +kernel
theorem dl_599 : decode code 599 = .ok (.invokevirtual 77, 3) := by decide +kernel
theorem dl_602 : decode code 602 = .ok (.aload_n 2, 1) := by decide +kernel
theorem dl_603 : decode code 603 = .ok (.aload_n 0, 1) := by decide +kernel
theorem dl_604 : decode code 604 = .ok (.iload_n 3, 1) := by decide +kernel
theorem dl_605 : decode code 605 = .ok (.iconst 1, 1) := by decide +kernel
theorem dl_606 : decode code 606 = .ok (.iadd, 1) := by decide +kernel
theorem dl_607 : decode code 607 = .ok (.iaload, 1) := by decide +kernel
theorem dl_608 : decode code 608 = .ok (.invokevirtual 80, 3) := by decide +kernel
theorem dl_611 : decode code 611 = .ok (.if_icmp .eq 172, 3) := by decide +kernel
theorem dl_614 : decode code 614 = .ok (.iconst 0, 1) := by decide +kernel
theorem dl_615 : decode code 615 = .ok (.ireturn, 1) := by decide +kernel
theorem dl_616 : decode code 616 = .ok (.aload_n 1, 1) := by decide +kernel
theorem dl_617 : decode code 617 = .ok (.aload_n 0, 1) := by decide +kernel
theorem dl_618 : decode code 618 = .ok (.iload_n 3, 1) := by decide +kernel
theorem dl_619 : decode code 619 = .ok (.iconst 1, 1) := by decide +kernel
theorem dl_620 : decode code 620 = .ok (.iadd, 1) := by decide +kernel
theorem dl_621 : decode code 621 = .ok (.iaload, 1) := by decide +kernel
theorem dl_622 : decode code 622 = .ok (.invokevirtual 81, 3) := by decide +kernel
theorem dl_625 : decode code 625 = .ok (.aload_n 2, 1) := by decide +kernel
theorem dl_626 : decode code 626 = .ok (.aload_n 0, 1) := by decide +kernel
theorem dl_627 : decode code 627 = .ok (.iload_n 3, 1) := by decide +kernel
theorem dl_628 : decode code 628 = .ok (.iconst 1, 1) := by decide +kernel
theorem dl_629 : decode code 629 = .ok (.iadd, 1) := by decide +kernel
theorem dl_630 : decode code 630 = .ok (.iaload, 1) := by decide +kernel
theorem dl_631 : decode code 631 = .ok (.invokevirtual 84, 3) := by decide +kernel
theorem dl_634 : decode code 634 = .ok (.if_icmp .eq 149, 3) := by decide +kernel
theorem dl_637 : decode code 637 = .ok (.iconst 0, 1) := by decide +kernel
theorem dl_638 : decode code 638 = .ok (.ireturn, 1) := by decide +kernel
theorem dl_639 : decode code 639 = .ok (.aload_n 1, 1) := by decide +kernel
theorem dl_640 : decode code 640 = .ok (.invokevirtual 85, 3) := by decide +kernel
theorem dl_643 : decode code 643 = .ok (.aload_n 2, 1) := by decide +kernel
theorem dl_644 : decode code 644 = .ok (.invokevirtual 88, 3) := by decide +kernel
theorem dl_647 : decode code 647 = .ok (.if_icmp .eq 136, 3) := by decide +kernel
theorem dl_650 : decode code 650 = .ok (.iconst 0, 1) := by decide +kernel
theorem dl_651 : decode code 651 = .ok (.ireturn, 1) := by decide +kernel
theorem dl_652 : decode code 652 = .ok (.aload_n 1, 1) := by decide +kernel
theorem dl_653 : decode code 653 = .ok (.invokevirtual 89, 3) := by decide +kernel
theorem dl_656 : decode code 656 = .ok (.aload_n 2, 1) := by decide +kernel
theorem dl_657 : decode code 657 = .ok (.invokevirtual 92, 3) := by decide +kernel
theorem dl_660 : decode code 660 = .ok (.if_icmp .eq 123, 3) := by decide +kernel
theorem dl_663 : decode code 663 = .ok (.iconst 0, 1) := by decide +kernel
theorem dl_664 : decode code 664 = .ok (.ireturn, 1) := by decide +kernel
theorem dl_665 : decode code 665 = .ok (.aload_n 1, 1) := by decide +kernel
theorem dl_666 : decode code 666 = .ok (.aload_n 0, 1) := by decide +kernel
theorem dl_667 : decode code 667 = .ok (.iload_n 3, 1) := by decide +kernel
theorem dl_668 : decode code 668 = .ok (.iconst 1, 1) := by decide +kernel
theorem dl_669 : decode code 669 = .ok (.iadd, 1) := by decide +kernel
theorem dl_670 : decode code 670 = .ok (.iaload, 1) := by decide +kernel
theorem dl_671 : decode code 671 = .ok (.invokevirtual 93, 3) := by decide +kernel
theorem dl_674 : decode code 674 = .ok (.aload_n 2, 1) := by decide +kernel
theorem dl_675 : decode code 675 = .ok (.aload_n 0, 1) := by decide +kernel
theorem dl_676 : decode code 676 = .ok (.iload_n 3, 1) := by decide +kernel
theorem dl_677 : decode code 677 = .ok (.iconst 1, 1) := by decide +kernel
theorem dl_678 : decode code 678 = .ok (.iadd, 1) := by decide +kernel
theorem dl_679 : decode code 679 = .ok (.iaload, 1) := by decide +kernel
theorem dl_680 : decode code 680 = .ok (.invokevirtual 96, 3) := by decide +kernel
theorem dl_683 : decode code 683 = .ok (.if_icmp .eq 100, 3) := by decide +kernel
theorem dl_686 : decode code 686 = .ok (.iconst 0, 1) := by decide +kernel
theorem dl_687 : decode code 687 = .ok (.ireturn, 1) := by decide +kernel
theorem dl_688 : decode code 688 = .ok (.aload_n 1, 1) := by decide +kernel
theorem dl_689 : decode code 689 = .ok (.aload_n 0, 1) := by decide +kernel
theorem dl_690 : decode code 690 = .ok (.iload_n 3, 1) := by decide +kernel
theorem dl_691 : decode code 691 = .ok (.iconst 1, 1) := by decide +kernel
theorem dl_692 : decode code 692 = .ok (.iadd, 1) := by decide +kernel
theorem dl_693 : decode code 693 = .ok (.iaload, 1) := by decide +kernel
theorem dl_694 : decode code 694 = .ok (.invokevirtual 97, 3) := by decide +kernel
theorem dl_697 : decode code 697 = .ok (.aload_n 2, 1) := by decide +kernel
theorem dl_698 : decode code 698 = .ok (.aload_n 0, 1) := by decide +kernel
theorem dl_699 : decode code 699 = .ok (.iload_n 3, 1) := by decide +kernel
theorem dl_700 : decode code 700 = .ok (.iconst 1, 1) := by decide +kernel
theorem dl_701 : decode code 701 = .ok (.iadd, 1) := by decide +kernel
theorem dl_702 : decode code 702 = .ok (.iaload, 1) := by decide +kernel
theorem dl_703 : decode code 703 = .ok (.invokevirtual 100, 3) := by decide +kernel
theorem dl_706 : decode code 706 = .ok (.if_icmp .eq 77, 3) := by decide +kernel
theorem dl_709 : decode code 709 = .ok (.iconst 0, 1) := by decide +kernel
theorem dl_710 : decode code 710 = .ok (.ireturn, 1) := by decide +kernel
theorem dl_711 : decode code 711 = .ok (.aload_n 1, 1) := by decide +kernel
theorem dl_712 : decode code 712 = .ok (.aload_n 0, 1) := by decide +kernel
theorem dl_713 : decode code 713 = .ok (.iload_n 3, 1) := by decide +kernel
theorem dl_714 : decode code 714 = .ok (.iconst 1, 1) := by decide +kernel
theorem dl_715 : decode code 715 = .ok (.iadd, 1) := by decide +kernel
theorem dl_716 : decode code 716 = .ok (.iaload, 1) := by decide +kernel
theorem dl_717 : decode code 717 = .ok (.invokevirtual 101, 3) := by decide +kernel
theorem dl_720 : decode code 720 = .ok (.aload_n 2, 1) := by decide +kernel
theorem dl_721 : decode code 721 = .ok (.aload_n 0, 1) := by decide +kernel
theorem dl_722 : decode code 722 = .ok (.iload_n 3, 1) := by decide +kernel
theorem dl_723 : decode code 723 = .ok (.iconst 1, 1) := by decide +kernel
theorem dl_724 : decode code 724 = .ok (.iadd, 1) := by decide +kernel
theorem dl_725 : decode code 725 = .ok (.iaload, 1) := by decide +kernel
theorem dl_726 : decode code 726 = .ok (.invokevirtual 104, 3) := by decide +kernel
theorem dl_729 : decode code 729 = .ok (.if_icmp .eq 54, 3) := by decide +kernel
theorem dl_732 : decode code 732 = .ok (.iconst 0, 1) := by decide +kernel
theorem dl_733 : decode code 733 = .ok (.ireturn, 1) := by decide +kernel
theorem dl_734 : decode code 734 = .ok (.aload_n 1, 1) := by decide +kernel
theorem dl_735 : decode code 735 = .ok (.invokevirtual 105, 3) := by decide +kernel
theorem dl_738 : decode code 738 = .ok (.aload_n 2, 1) := by decide +kernel
theorem dl_739 : decode code 739 = .ok (.invokevirtual 108, 3) := by decide +kernel
theorem dl_742 : decode code 742 = .ok (.if_icmp .eq 41, 3) := by decide +kernel
theorem dl_745 : decode code 745 = .ok (.iconst 0, 1) := by decide +kernel
theorem dl_746 : decode code 746 = .ok (.ireturn, 1) := by decide +kernel
theorem dl_747 : decode code 747 = .ok (.aload_n 1, 1) := by decide +kernel
theorem dl_748 : decode code 748 = .ok (.aload_n 0, 1) := by decide +kernel
theorem dl_749 : decode code 749 = .ok (.iload_n 3, 1) := by decide +kernel
theorem dl_750 : decode code 750 = .ok (.iconst 1, 1) := by decide +kernel
theorem dl_751 : decode code 751 = .ok (.iadd, 1) := by decide +kernel
theorem dl_752 : decode code 752 = .ok (.iaload, 1) := by decide +kernel
theorem dl_753 : decode code 753 = .ok (.invokevirtual 109, 3) := by decide +kernel
theorem dl_756 : decode code 756 = .ok (.aload_n 2, 1) := by decide +kernel
theorem dl_757 : decode code 757 = .ok (.aload_n 0, 1) := by decide +kernel
theorem dl_758 : decode code 758 = .ok (.iload_n 3, 1) := by decide +kernel
theorem dl_759 : decode code 759 = .ok (.iconst 1, 1) := by decide +kernel
theorem dl_760 : decode code 760 = .ok (.iadd, 1) := by decide +kernel
theorem dl_761 : decode code 761 = .ok (.iaload, 1) := by decide +kernel
theorem dl_762 : decode code 762 = .ok (.invokevirtual 112, 3) := by decide +kernel
theorem dl_765 : decode code 765 = .ok (.if_icmp .eq 18, 3) := by decide +kernel
theorem dl_768 : decode code 768 = .ok (.iconst 0, 1) := by decide +kernel
theorem dl_769 : decode code 769 = .ok (.ireturn, 1) := by decide +kernel
theorem dl_770 : decode code 770 = .ok (.aload_n 1, 1) := by decide +kernel
theorem dl_771 : decode code 771 = .ok (.invokevirtual 113, 3) := by decide +kernel
theorem dl_774 : decode code 774 = .ok (.aload_n 2, 1) := by decide +kernel
theorem dl_775 : decode code 775 = .ok (.invokevirtual 116, 3) := by decide +kernel
theorem dl_778 : decode code 778 = .ok (.if_icmp .eq 5, 3) := by decide +kernel
theorem dl_781 : decode code 781 = .ok (.iconst 0, 1) := by decide +kernel
theorem dl_782 : decode code 782 = .ok (.ireturn, 1) := by decide +kernel
theorem dl_783 : decode code 783 = .ok (.iinc 3 4, 3) := by decide +kernel
theorem dl_786 : decode code 786 = .ok (.goto (-768), 3) := by decide +kernel
theorem dl_789 : decode code 789 = .ok (.iconst 1, 1) := by decide +kernel
theorem dl_790 : decode code 790 = .ok (.ireturn, 1) := by decide +kernel
theorem lk_15_13 : pm_LV 15 13 59 := ⟨pm_in 497 (by decide +kernel) (by decide +kernel), pm_in 498 (by decide +kernel) (by decide +kernel), pm_in 499 (by decide +kernel) (by decide +kernel), (by decide +kernel)⟩
theorem lk_15_17 : pm_LV 15 17 128 := ⟨pm_in 1004 (by decide +kernel) (by decide +kernel), pm_in 1005 (by decide +kernel) (by decide +kernel), pm_in 1006 (by decide +kernel) (by decide +kernel), (by decide +kernel)⟩
theorem lk_15_18 : pm_LV 15 18 60 := ⟨pm_in 523 (by decide +kernel) (by decide +kernel), pm_in 524 (by decide +kernel) (by decide +kernel), pm_in 525 (by decide +kernel) (by decide +kernel), (by decide +kernel)⟩
theorem lk_15_21 : pm_LV 15 21 129 := ⟨pm_in 1019 (by decide +kernel) (by decide +kernel), pm_in 1020 (by decide +kernel) (by decide +kernel), pm_in 1021 (by decide +kernel) (by decide +kernel), (by decide +kernel)⟩
theorem lk_15_22 : pm_LV 15 22 61 := ⟨pm_in 527 (by decide +kernel) (by decide +kernel), pm_in 528 (by decide +kernel) (by decide +kernel), pm_in 529 (by decide +kernel) (by decide +kernel), (by decide +kernel)⟩
theorem lk_15_25 : pm_LV 15 25 132 := ⟨pm_in 1023 (by decide +kernel) (by decide +kernel), pm_in 1024 (by decide +kernel) (by decide +kernel), pm_in 1025 (by decide +kernel) (by decide +kernel), (by decide +kernel)⟩
theorem lk_15_26 : pm_LV 15 26 62 := ⟨pm_in 539 (by decide +kernel) (by decide +kernel), pm_in 540 (by decide +kernel) (by decide +kernel), pm_in 541 (by decide +kernel) (by decide +kernel), (by decide +kernel)⟩
theorem lk_15_30 : pm_LV 15 30 133 := ⟨pm_in 1035 (by decide +kernel) (by decide +kernel), pm_in 1036 (by decide +kernel) (by decide +kernel), pm_in 1037 (by decide +kernel) (by decide +kernel), (by decide +kernel)⟩
theorem lk_15_31 : pm_LV 15 31 63 := ⟨pm_in 595 (by decide +kernel) (by decide +kernel), pm_in 596 (by decide +kernel) (by decide +kernel), pm_in 597 (by decide +kernel) (by decide +kernel), (by decide +kernel)⟩
theorem lk_15_34 : pm_LV 15 34 143 := ⟨pm_in 1055 (by decide +kernel) (by decide +kernel), pm_in 1056 (by decide +kernel) (by decide +kernel), pm_in 1057 (by decide +kernel) (by decide +kernel), (by decide +kernel)⟩
theorem lk_15_35 : pm_LV 15 35 64 := ⟨pm_in 631 (by decide +kernel) (by decide +kernel), pm_in 632 (by decide +kernel) (by decide +kernel), pm_in 633 (by decide +kernel) (by decide +kernel), (by decide +kernel)⟩
theorem lk_15_39 : pm_LV 15 39 116 := ⟨pm_in 1000 (by decide +kernel) (by decide +kernel), pm_in 1001 (by decide +kernel) (by decide +kernel), pm_in 1002 (by decide +kernel) (by decide +kernel), (by decide +kernel)⟩
theorem lk_15_40 : pm_LV 15 40 65 := ⟨pm_in 639 (by decide +kernel) (by decide +kernel), pm_in 640 (by decide +kernel) (by decide +kernel), pm_in 641 (by decide +kernel) (by decide +kernel), (by decide +kernel)⟩
theorem lk_15_43 : pm_LV 15 43 148 := ⟨pm_in 1091 (by decide +kernel) (by decide +kernel), pm_in 1092 (by decide +kernel) (by decide +kernel), pm_in 1093 (by decide +kernel) (by decide +kernel), (by decide +kernel)⟩
theorem lk_15_44 : pm_LV 15 44 66 := ⟨pm_in 668 (by decide +kernel) (by decide +kernel), pm_in 669 (by decide +kernel) (by decide +kernel), pm_in 670 (by decide +kernel) (by decide +kernel), (by decide +kernel)⟩
theorem lk_15_48 : pm_LV 15 48 150 := ⟨pm_in 1111 (by decide +kernel) (by decide +kernel), pm_in 1112 (by decide +kernel) (by decide +kernel), pm_in 1113 (by decide +kernel) (by decide +kernel), (by decide +kernel)⟩
theorem lk_15_49 : pm_LV 15 49 67 := ⟨pm_in 679 (by decide +kernel) (by decide +kernel), pm_in 680 (by decide +kernel) (by decide +kernel), pm_in 681 (by decide +kernel) (by decide +kernel), (by decide +kernel)⟩
theorem lk_15_52 : pm_LV 15 52 151 := ⟨pm_in 1119 (by decide +kernel) (by decide +kernel), pm_in 1120 (by decide +kernel) (by decide +kernel), pm_in 1121 (by decide +kernel) (by decide +kernel), (by decide +kernel)⟩
theorem lk_15_53 : pm_LV 15 53 68 := ⟨pm_in 683 (by decide +kernel) (by decide +kernel), pm_in 684 (by decide +kernel) (by decide +kernel), pm_in 685 (by decide +kernel) (by decide +kernel), (by decide +kernel)⟩
theorem lk_15_56 : pm_LV 15 56 152 := ⟨pm_in 1123 (by decide +kernel) (by decide +kernel), pm_in 1124 (by decide +kernel) (by decide +kernel), pm_in 1125 (by decide +kernel) (by decide +kernel), (by decide +kernel)⟩
theorem lk_15_57 : pm_LV 15 57 69 := ⟨pm_in 687 (by decide +kernel) (by decide +kernel), pm_in 688 (by decide +kernel) (by decide +kernel), pm_in 689 (by decide +kernel) (by decide +kernel), (by decide +kernel)⟩
theorem lk_15_60 : pm_LV 15 60 153 := ⟨pm_in 1127 (by decide +kernel) (by decide +kernel), pm_in 1128 (by decide +kernel) (by decide +kernel), pm_in 1129 (by decide +kernel) (by decide +kernel), (by decide +kernel)⟩
theorem lk_15_61 : pm_LV 15 61 70 := ⟨pm_in 705 (by decide +kernel) (by decide +kernel), pm_in 706 (by decide +kernel) (by decide +kernel), pm_in 707 (by decide +kernel) (by decide +kernel), (by decide +kernel)⟩
theorem lk_15_64 : pm_LV 15 64 156 := ⟨pm_in 1135 (by decide +kernel) (by decide +kernel), pm_in 1136 (by decide +kernel) (by decide +kernel), pm_in 1137 (by decide +kernel) (by decide +kernel), (by decide +kernel)⟩
theorem lk_15_65 : pm_LV 15 65 71 := ⟨pm_in 710 (by decide +kernel) (by decide +kernel), pm_in 711 (by decide +kernel) (by decide +kernel), pm_in 712 (by decide +kernel) (by decide +kernel), (by decide +kernel)⟩
theorem lk_15_68 : pm_LV 15 68 157 := ⟨pm_in 1139 (by decide +kernel) (by decide +kernel), pm_in 1140 (by decide +kernel) (by decide +kernel), pm_in 1141 (by decide +kernel) (by decide +kernel), (by decide +kernel)⟩
theorem lk_15_69 : pm_LV 15 69 72 := ⟨pm_in 723 (by decide +kernel) (by decide +kernel), pm_in 724 (by decide +kernel) (by decide +kernel), pm_in 725 (by decide +kernel) (by decide +kernel), (by decide +kernel)⟩
theorem lk_15_72 : pm_LV 15 72 159 := ⟨pm_in 1151 (by decide +kernel) (by decide +kernel), pm_in 1152 (by decide +kernel) (by decide +kernel), pm_in 1153 (by decide +kernel) (by decide +kernel), (by decide +kernel)⟩
theorem lk_15_73 : pm_LV 15 73 73 := ⟨pm_in 735 (by decide +kernel) (by decide +kernel), pm_in 736 (by decide +kernel) (by decide +kernel), pm_in 737 (by decide +kernel) (by decide +kernel), (by decide +kernel)⟩
theorem lk_15_76 : pm_LV 15 76 160 := ⟨pm_in 1155 (by decide +kernel) (by decide +kernel), pm_in 1156 (by decide +kernel) (by decide +kernel), pm_in 1157 (by decide +kernel) (by decide +kernel), (by decide +kernel)⟩
theorem lk_15_77 : pm_LV 15 77 74 := ⟨pm_in 747 (by decide +kernel) (by decide +kernel), pm_in 748 (by decide +kernel) (by decide +kernel), pm_in 749 (by decide +kernel) (by decide +kernel), (by decide +kernel)⟩
theorem lk_15_80 : pm_LV 15 80 162 := ⟨pm_in 1159 (by decide +kernel) (by decide +kernel), pm_in 1160 (by decide +kernel) (by decide +kernel), pm_in 1161 (by decide +kernel) (by decide +kernel), (by decide +kernel)⟩
theorem lk_15_81 : pm_LV 15 81 75 := ⟨pm_in 764 (by decide +kernel) (by decide +kernel), pm_in 765 (by decide +kernel) (by decide +kernel), pm_in 766 (by decide +kernel) (by decide +kernel), (by decide +kernel)⟩
theorem lk_15_84 : pm_LV 15 84 163 := ⟨pm_in 1167 (by decide +kernel) (by decide +kernel), pm_in 1168 (by decide +kernel) (by decide +kernel), pm_in 1169 (by decide +kernel) (by decide +kernel), (by decide +kernel)⟩
theorem lk_15_85 : pm_LV 15 85 76 := ⟨pm_in 772 (by decide +kernel) (by decide +kernel), pm_in 773 (by decide +kernel) (by decide +kernel), pm_in 774 (by decide +kernel) (by decide +kernel), (by decide +kernel)⟩
theorem lk_15_88 : pm_LV 15 88 165 := ⟨pm_in 1171 (by decide +kernel) (by decide +kernel), pm_in 1172 (by decide +kernel) (by decide +kernel), pm_in 1173 (by decide +kernel) (by decide +kernel), (by decide +kernel)⟩
theorem lk_15_89 : pm_LV 15 89 77 := ⟨pm_in 776 (by decide +kernel) (by decide +kernel), pm_in 777 (by decide +kernel) (by decide +kernel), pm_in 778 (by decide +kernel) (by decide +kernel), (by decide +kernel)⟩
theorem lk_15_92 : pm_LV 15 92 166 := ⟨pm_in 1175 (by decide +kernel) (by decide +kernel), pm_in 1176 (by decide +kernel) (by decide +kernel), pm_in 1177 (by decide +kernel) (by decide +kernel), (by decide +kernel)⟩
theorem lk_15_93 : pm_LV 15 93 78 := ⟨pm_in 780 (by decide +kernel) (by decide +kernel), pm_in 781 (by decide +kernel) (by decide +kernel), pm_in 782 (by decide +kernel) (by decide +kernel), (by decide +kernel)⟩
theorem lk_15_96 : pm_LV 15 96 171 := ⟨pm_in 1179 (by decide +kernel) (by decide +kernel), pm_in 1180 (by decide +kernel) (by decide +kernel), pm_in 1181 (by decide +kernel) (by decide +kernel), (by decide +kernel)⟩
theorem lk_15_97 : pm_LV 15 97 79 := ⟨pm_in 793 (by decide +kernel) (by decide +kernel), pm_in 794 (by decide +kernel) (by decide +kernel), pm_in 795 (by decide +kernel) (by decide +kernel), (by decide +kernel)⟩
theorem lk_15_100 : pm_LV 15 100 173 := ⟨pm_in 1187 (by decide +kernel) (by decide +kernel), pm_in 1188 (by decide +kernel) (by decide +kernel), pm_in 1189 (by decide +kernel) (by decide +kernel), (by decide +kernel)⟩
theorem lk_15_101 : pm_LV 15 101 80 := ⟨pm_in 797 (by decide +kernel) (by decide +kernel), pm_in 798 (by decide +kernel) (by decide +kernel), pm_in 799 (by decide +kernel) (by decide +kernel), (by decide +kernel)⟩
theorem lk_15_104 : pm_LV 15 104 174 := ⟨pm_in 1195 (by decide +kernel) (by decide +kernel), pm_in 1196 (by decide +kernel) (by decide +kernel), pm_in 1197 (by decide +kernel) (by decide +kernel), (by decide +kernel)⟩
theorem lk_15_105 : pm_LV 15 105 81 := ⟨pm_in 805 (by decide +kernel) (by decide +kernel), pm_in 806 (by decide +kernel) (by decide +kernel), pm_in 807 (by decide +kernel) (by decide +kernel), (by decide +kernel)⟩
theorem lk_15_108 : pm_LV 15 108 175 := ⟨pm_in 1199 (by decide +kernel) (by decide +kernel), pm_in 1200 (by decide +kernel) (by decide +kernel), pm_in 1201 (by decide +kernel) (by decide +kernel), (by decide +kernel)⟩
theorem lk_15_109 : pm_LV 15 109 82 := ⟨pm_in 809 (by decide +kernel) (by decide +kernel), pm_in 810 (by decide +kernel) (by decide +kernel), pm_in 811 (by decide +kernel) (by decide +kernel), (by decide +kernel)⟩
theorem lk_15_112 : pm_LV 15 112 181 := ⟨pm_in 1203 (by decide +kernel) (by decide +kernel), pm_in 1204 (by decide +kernel) (by decide +kernel), pm_in 1205 (by decide +kernel) (by decide +kernel), (by decide +kernel)⟩
theorem lk_15_113 : pm_LV 15 113 83 := ⟨pm_in 845 (by decide +kernel) (by decide +kernel), pm_in 846 (by decide +kernel) (by decide +kernel), pm_in 847 (by decide +kernel) (by decide +kernel), (by decide +kernel)⟩
theorem lk_15_116 : pm_LV 15 116 182 := ⟨pm_in 1227 (by decide +kernel) (by decide +kernel), pm_in 1228 (by decide +kernel) (by decide +kernel), pm_in 1229 (by decide +kernel) (by decide +kernel), (by decide +kernel)⟩
theorem lz_k0 {L : Nat} {xs : Nat → Int32} {iN : Nat} {σ : Sig} {A B : Mem} (hL : L ≤ 2048) (h4 : iN + 4 ≤ L) (hC : CW σ A) (hM : MW σ B) (k : ∀ (σ : Sig) (A B : Mem), CW σ A → MW σ B → lz_P L xs 783 iN [] A B) : lz_P L xs 148 iN [] A B := by
  refine lz_a1 dl_148 ?_
  refine lz_arg 1 dl_149 dl_150 dl_151 dl_152 dl_153 (by omega) hL ?_
  refine lz_call0 (k2 := 59) (vs := [xs (iN + 1)]) dl_154 lk_15_13 ok_59 rfl rfl rfl (Nat.le_of_ble_eq_true rfl) rfl rfl rfl rfl ⟨(Nat.le_of_ble_eq_true rfl), (Nat.le_of_ble_eq_true rfl)⟩ (Nat.le_of_ble_eq_true rfl) ?_
  refine pc_59 hC (fun A2 hC2 => ?_)
  refine lz_a2 dl_157 ?_
  refine lz_arg 1 dl_158 dl_159 dl_160 dl_161 dl_162 (by omega) hL ?_
  refine lz_call1 (k2 := 128) (vs := [xs (iN + 1)]) dl_163 lk_15_17 ok_128 rfl rfl rfl (Nat.le_of_ble_eq_true rfl) rfl rfl rfl rfl ⟨(Nat.le_of_ble_eq_true rfl), (Nat.le_of_ble_eq_true rfl)⟩ (Nat.le_of_ble_eq_true rfl) ?_
  refine pd_128 hM (fun B2 hM2 => ?_)
  refine lz_eq (tgt := 783) dl_166 rfl ?_
  exact k _ _ _ hC2 hM2
theorem lz_k1 {L : Nat} {xs : Nat → Int32} {iN : Nat} {σ : Sig} {A B : Mem} (hL : L ≤ 2048) (h4 : iN + 4 ≤ L) (hC : CW σ A) (hM : MW σ B) (k : ∀ (σ : Sig) (A B : Mem), CW σ A → MW σ B → lz_P L xs 783 iN [] A B) : lz_P L xs 171 iN [] A B := by
  refine lz_a1 dl_171 ?_
  refine lz_arg 1 dl_172 dl_173 dl_174 dl_175 dl_176 (by omega) hL ?_
  refine lz_call0 (k2 := 60) (vs := [xs (iN + 1)]) dl_177 lk_15_18 ok_60 rfl rfl rfl (Nat.le_of_ble_eq_true rfl) rfl rfl rfl rfl ⟨(Nat.le_of_ble_eq_true rfl), (Nat.le_of_ble_eq_true rfl)⟩ (Nat.le_of_ble_eq_true rfl) ?_
  refine pc_60 hC (fun A2 hC2 => ?_)
  refine lz_a2 dl_180 ?_
  refine lz_arg 1 dl_181 dl_182 dl_183 dl_184 dl_185 (by omega) hL ?_
  refine lz_call1 (k2 := 129) (vs := [xs (iN + 1)]) dl_186 lk_15_21 ok_129 rfl rfl rfl (Nat.le_of_ble_eq_true rfl) rfl rfl rfl rfl ⟨(Nat.le_of_ble_eq_true rfl), (Nat.le_of_ble_eq_true rfl)⟩ (Nat.le_of_ble_eq_true rfl) ?_
  refine pd_129 hM (fun B2 hM2 => ?_)
  refine lz_eq (tgt := 783) dl_189 rfl ?_
  exact k _ _ _ hC2 hM2
theorem lz_k2 {L : Nat} {xs : Nat → Int32} {iN : Nat} {σ : Sig} {A B : Mem} (hL : L ≤ 2048) (h4 : iN + 4 ≤ L) (hC : CW σ A) (hM : MW σ B) (k : ∀ (σ : Sig) (A B : Mem), CW σ A → MW σ B → lz_P L xs 783 iN [] A B) : lz_P L xs 194 iN [] A B := by
  refine lz_a1 dl_194 ?_
  refine lz_arg 1 dl_195 dl_196 dl_197 dl_198 dl_199 (by omega) hL ?_
  refine lz_call0 (k2 := 61) (vs := [xs (iN + 1)]) dl_200 lk_15_22 ok_61 rfl rfl rfl (Nat.le_of_ble_eq_true rfl) rfl rfl rfl rfl ⟨(Nat.le_of_ble_eq_true rfl), (Nat.le_of_ble_eq_true rfl)⟩ (Nat.le_of_ble_eq_true rfl) ?_
  refine pc_61 hC (fun A2 hC2 => ?_)
  refine lz_a2 dl_203 ?_
  refine lz_arg 1 dl_204 dl_205 dl_206 dl_207 dl_208 (by omega) hL ?_
  refine lz_call1 (k2 := 132) (vs := [xs (iN + 1)]) dl_209 lk_15_25 ok_132 rfl rfl rfl (Nat.le_of_ble_eq_true rfl) rfl rfl rfl rfl ⟨(Nat.le_of_ble_eq_true rfl), (Nat.le_of_ble_eq_true rfl)⟩ (Nat.le_of_ble_eq_true rfl) ?_
  refine pd_132 hM (fun B2 hM2 => ?_)
  refine lz_eq (tgt := 783) dl_212 rfl ?_
  exact k _ _ _ hC2 hM2
theorem lz_k3 {L : Nat} {xs : Nat → Int32} {iN : Nat} {σ : Sig} {A B : Mem} (hL : L ≤ 2048) (h4 : iN + 4 ≤ L) (hC : CW σ A) (hM : MW σ B) (k : ∀ (σ : Sig) (A B : Mem), CW σ A → MW σ B → lz_P L xs 783 iN [] A B) : lz_P L xs 217 iN [] A B := by
  refine lz_a1 dl_217 ?_
  refine lz_arg 1 dl_218 dl_219 dl_220 dl_221 dl_222 (by omega) hL ?_
  refine lz_arg 2 dl_223 dl_224 dl_225 dl_226 dl_227 (by omega) hL ?_
  refine lz_call0 (k2 := 62) (vs := [xs (iN + 1), xs (iN + 2)]) dl_228 lk_15_26 ok_62 rfl rfl rfl (Nat.le_of_ble_eq_true rfl) rfl rfl rfl rfl ⟨(Nat.le_of_ble_eq_true rfl), (Nat.le_of_ble_eq_true rfl)⟩ (Nat.le_of_ble_eq_true rfl) ?_
  refine pc_62 hC (fun A2 hC2 => ?_)
  refine lz_a2 dl_231 ?_
  refine lz_arg 1 dl_232 dl_233 dl_234 dl_235 dl_236 (by omega) hL ?_
  refine lz_arg 2 dl_237 dl_238 dl_239 dl_240 dl_241 (by omega) hL ?_
  refine lz_call1 (k2 := 133) (vs := [xs (iN + 1), xs (iN + 2)]) dl_242 lk_15_30 ok_133 rfl rfl rfl (Nat.le_of_ble_eq_true rfl) rfl rfl rfl rfl ⟨(Nat.le_of_ble_eq_true rfl), (Nat.le_of_ble_eq_true rfl)⟩ (Nat.le_of_ble_eq_true rfl) ?_
  refine pd_133 hM (fun B2 hM2 => ?_)
  refine lz_eq (tgt := 783) dl_245 rfl ?_
  exact k _ _ _ hC2 hM2
theorem lz_k4 {L : Nat} {xs : Nat → Int32} {iN : Nat} {σ : Sig} {A B : Mem} (hL : L ≤ 2048) (h4 : iN + 4 ≤ L) (hC : CW σ A) (hM : MW σ B) (k : ∀ (σ : Sig) (A B : Mem), CW σ A → MW σ B → lz_P L xs 783 iN [] A B) : lz_P L xs 250 iN [] A B := by
  refine lz_a1 dl_250 ?_
  refine lz_arg 1 dl_251 dl_252 dl_253 dl_254 dl_255 (by omega) hL ?_
  refine lz_call0 (k2 := 63) (vs := [xs (iN + 1)]) dl_256 lk_15_31 ok_63 rfl rfl rfl (Nat.le_of_ble_eq_true rfl) rfl rfl rfl rfl ⟨(Nat.le_of_ble_eq_true rfl), (Nat.le_of_ble_eq_true rfl)⟩ (Nat.le_of_ble_eq_true rfl) ?_
  refine pc_63 hC (fun A2 hC2 => ?_)
  refine lz_a2 dl_259 ?_
  refine lz_arg 1 dl_260 dl_261 dl_262 dl_263 dl_264 (by omega) hL ?_
  refine lz_call1 (k2 := 143) (vs := [xs (iN + 1)]) dl_265 lk_15_34 ok_143 rfl rfl rfl (Nat.le_of_ble_eq_true rfl) rfl rfl rfl rfl ⟨(Nat.le_of_ble_eq_true rfl), (Nat.le_of_ble_eq_true rfl)⟩ (Nat.le_of_ble_eq_true rfl) ?_
  refine pd_143 hM (fun B2 hM2 => ?_)
  refine lz_eq (tgt := 783) dl_268 rfl ?_
  exact k _ _ _ hC2 hM2
theorem lz_k5 {L : Nat} {xs : Nat → Int32} {iN : Nat} {σ : Sig} {A B : Mem} (hL : L ≤ 2048) (h4 : iN + 4 ≤ L) (hC : CW σ A) (hM : MW σ B) (k : ∀ (σ : Sig) (A B : Mem), CW σ A → MW σ B → lz_P L xs 783 iN [] A B) : lz_P L xs 273 iN [] A B := by
  refine lz_a1 dl_273 ?_
  refine lz_call0 (k2 := 64) (vs := []) dl_274 lk_15_35 ok_64 rfl rfl rfl (Nat.le_of_ble_eq_true rfl) rfl rfl rfl rfl ⟨(Nat.le_of_ble_eq_true rfl), (Nat.le_of_ble_eq_true rfl)⟩ (Nat.le_of_ble_eq_true rfl) ?_
  refine pc_64 hC (fun A2 hC2 => ?_)
  refine lz_a2 dl_277 ?_
  refine lz_call1 (k2 := 116) (vs := []) dl_278 lk_15_39 ok_116 rfl rfl rfl (Nat.le_of_ble_eq_true rfl) rfl rfl rfl rfl ⟨(Nat.le_of_ble_eq_true rfl), (Nat.le_of_ble_eq_true rfl)⟩ (Nat.le_of_ble_eq_true rfl) ?_
  refine pd_116 hM (fun B2 hM2 => ?_)
  refine lz_eq (tgt := 783) dl_281 rfl ?_
  exact k _ _ _ hC2 hM2
theorem lz_k6 {L : Nat} {xs : Nat → Int32} {iN : Nat} {σ : Sig} {A B : Mem} (hL : L ≤ 2048) (h4 : iN + 4 ≤ L) (hC : CW σ A) (hM : MW σ B) (k : ∀ (σ : Sig) (A B : Mem), CW σ A → MW σ B → lz_P L xs 783 iN [] A B) : lz_P L xs 286 iN [] A B := by
  refine lz_a1 dl_286 ?_
  refine lz_arg 1 dl_287 dl_288 dl_289 dl_290 dl_291 (by omega) hL ?_
  refine lz_arg 2 dl_292 dl_293 dl_294 dl_295 dl_296 (by omega) hL ?_
  refine lz_call0 (k2 := 65) (vs := [xs (iN + 1), xs (iN + 2)]) dl_297 lk_15_40 ok_65 rfl rfl rfl (Nat.le_of_ble_eq_true rfl) rfl rfl rfl rfl ⟨(Nat.le_of_ble_eq_true rfl), (Nat.le_of_ble_eq_true rfl)⟩ (Nat.le_of_ble_eq_true rfl) ?_
  refine pc_65 hC (fun A2 hC2 => ?_)
  refine lz_a2 dl_300 ?_
  refine lz_arg 1 dl_301 dl_302 dl_303 dl_304 dl_305 (by omega) hL ?_
  refine lz_arg 2 dl_306 dl_307 dl_308 dl_309 dl_310 (by omega) hL ?_
  refine lz_call1 (k2 := 148) (vs := [xs (iN + 1), xs (iN + 2)]) dl_311 lk_15_43 ok_148 rfl rfl rfl (Nat.le_of_ble_eq_true rfl) rfl rfl rfl rfl ⟨(Nat.le_of_ble_eq_true rfl), (Nat.le_of_ble_eq_true rfl)⟩ (Nat.le_of_ble_eq_true rfl) ?_
  refine pd_148 hM (fun B2 hM2 => ?_)
  refine lz_eq (tgt := 783) dl_314 rfl ?_
  exact k _ _ _ hC2 hM2
theorem lz_k7 {L : Nat} {xs : Nat → Int32} {iN : Nat} {σ : Sig} {A B : Mem} (hL : L ≤ 2048) (h4 : iN + 4 ≤ L) (hC : CW σ A) (hM : MW σ B) (k : ∀ (σ : Sig) (A B : Mem), CW σ A → MW σ B → lz_P L xs 783 iN [] A B) : lz_P L xs 319 iN [] A B := by
  refine lz_a1 dl_319 ?_
  refine lz_arg 1 dl_320 dl_321 dl_322 dl_323 dl_324 (by omega) hL ?_
  refine lz_arg 2 dl_325 dl_326 dl_327 dl_328 dl_329 (by omega) hL ?_
  refine lz_arg 3 dl_330 dl_331 dl_332 dl_333 dl_334 (by omega) hL ?_
  refine lz_call0 (k2 := 66) (vs := [xs (iN + 1), xs (iN + 2), xs (iN + 3)]) dl_335 lk_15_44 ok_66 rfl rfl rfl (Nat.le_of_ble_eq_true rfl) rfl rfl rfl rfl ⟨(Nat.le_of_ble_eq_true rfl), (Nat.le_of_ble_eq_true rfl)⟩ (Nat.le_of_ble_eq_true rfl) ?_
  refine pc_66 hC (fun A2 hC2 => ?_)
  refine lz_a2 dl_338 ?_
  refine lz_arg 1 dl_339 dl_340 dl_341 dl_342 dl_343 (by omega) hL ?_
  refine lz_arg 2 dl_344 dl_345 dl_346 dl_347 dl_348 (by omega) hL ?_
  refine lz_arg 3 dl_349 dl_350 dl_351 dl_352 dl_353 (by omega) hL ?_
  refine lz_call1 (k2 := 150) (vs := [xs (iN + 1), xs (iN + 2), xs (iN + 3)]) dl_354 lk_15_48 ok_150 rfl rfl rfl (Nat.le_of_ble_eq_true rfl) rfl rfl rfl rfl ⟨(Nat.le_of_ble_eq_true rfl), (Nat.le_of_ble_eq_true rfl)⟩ (Nat.le_of_ble_eq_true rfl) ?_
  refine pd_150 hM (fun B2 hM2 => ?_)
  refine lz_eq (tgt := 783) dl_357 rfl ?_
  exact k _ _ _ hC2 hM2
theorem lz_k8 {L : Nat} {xs : Nat → Int32} {iN : Nat} {σ : Sig} {A B : Mem} (hL : L ≤ 2048) (h4 : iN + 4 ≤ L) (hC : CW σ A) (hM : MW σ B) (k : ∀ (σ : Sig) (A B : Mem), CW σ A → MW σ B → lz_P L xs 783 iN [] A B) : lz_P L xs 362 iN [] A B := by
  refine lz_a1 dl_362 ?_
  refine lz_arg 1 dl_363 dl_364 dl_365 dl_366 dl_367 (by omega) hL ?_
  refine lz_arg 2 dl_368 dl_369 dl_370 dl_371 dl_372 (by omega) hL ?_
  refine lz_call0 (k2 := 67) (vs := [xs (iN + 1), xs (iN + 2)]) dl_373 lk_15_49 ok_67 rfl rfl rfl (Nat.le_of_ble_eq_true rfl) rfl rfl rfl rfl ⟨(Nat.le_of_ble_eq_true rfl), (Nat.le_of_ble_eq_true rfl)⟩ (Nat.le_of_ble_eq_true rfl) ?_
  refine pc_67 hC (fun A2 hC2 => ?_)
  refine lz_a2 dl_376 ?_
  refine lz_arg 1 dl_377 dl_378 dl_379 dl_380 dl_381 (by omega) hL ?_
  refine lz_arg 2 dl_382 dl_383 dl_384 dl_385 dl_386 (by omega) hL ?_
  refine lz_call1 (k2 := 151) (vs := [xs (iN + 1), xs (iN + 2)]) dl_387 lk_15_52 ok_151 rfl rfl rfl (Nat.le_of_ble_eq_true rfl) rfl rfl rfl rfl ⟨(Nat.le_of_ble_eq_true rfl), (Nat.le_of_ble_eq_true rfl)⟩ (Nat.le_of_ble_eq_true rfl) ?_
  refine pd_151 hM (fun B2 hM2 => ?_)
  refine lz_eq (tgt := 783) dl_390 rfl ?_
  exact k _ _ _ hC2 hM2
theorem lz_k9 {L : Nat} {xs : Nat → Int32} {iN : Nat} {σ : Sig} {A B : Mem} (hL : L ≤ 2048) (h4 : iN + 4 ≤ L) (hC : CW σ A) (hM : MW σ B) (k : ∀ (σ : Sig) (A B : Mem), CW σ A → MW σ B → lz_P L xs 783 iN [] A B) : lz_P L xs 395 iN [] A B := by
  refine lz_a1 dl_395 ?_
  refine lz_arg 1 dl_396 dl_397 dl_398 dl_399 dl_400 (by omega) hL ?_
  refine lz_arg 2 dl_401 dl_402 dl_403 dl_404 dl_405 (by omega) hL ?_
  refine lz_call0 (k2 := 68) (vs := [xs (iN + 1), xs (iN + 2)]) dl_406 lk_15_53 ok_68 rfl rfl rfl (Nat.le_of_ble_eq_true rfl) rfl rfl rfl rfl ⟨(Nat.le_of_ble_eq_true rfl), (Nat.le_of_ble_eq_true rfl)⟩ (Nat.le_of_ble_eq_true rfl) ?_
  refine pc_68 hC (fun A2 hC2 => ?_)
  refine lz_a2 dl_409 ?_
  refine lz_arg 1 dl_410 dl_411 dl_412 dl_413 dl_414 (by omega) hL ?_
  refine lz_arg 2 dl_415 dl_416 dl_417 dl_418 dl_419 (by omega) hL ?_
  refine lz_call1 (k2 := 152) (vs := [xs (iN + 1), xs (iN + 2)]) dl_420 lk_15_56 ok_152 rfl rfl rfl (Nat.le_of_ble_eq_true rfl) rfl rfl rfl rfl ⟨(Nat.le_of_ble_eq_true rfl), (Nat.le_of_ble_eq_true rfl)⟩ (Nat.le_of_ble_eq_true rfl) ?_
  refine pd_152 hM (fun B2 hM2 => ?_)
  refine lz_eq (tgt := 783) dl_423 rfl ?_
  exact k _ _ _ hC2 hM2
theorem lz_k10 {L : Nat} {xs : Nat → Int32} {iN : Nat} {σ : Sig} {A B : Mem} (hL : L ≤ 2048) (h4 : iN + 4 ≤ L) (hC : CW σ A) (hM : MW σ B) (k : ∀ (σ : Sig) (A B : Mem), CW σ A → MW σ B → lz_P L xs 783 iN [] A B) : lz_P L xs 428 iN [] A B := by
  refine lz_a1 dl_428 ?_
  refine lz_arg 1 dl_429 dl_430 dl_431 dl_432 dl_433 (by omega) hL ?_
  refine lz_arg 2 dl_434 dl_435 dl_436 dl_437 dl_438 (by omega) hL ?_
  refine lz_call0 (k2 := 69) (vs := [xs (iN + 1), xs (iN + 2)]) dl_439 lk_15_57 ok_69 rfl rfl rfl (Nat.le_of_ble_eq_true rfl) rfl rfl rfl rfl ⟨(Nat.le_of_ble_eq_true rfl), (Nat.le_of_ble_eq_true rfl)⟩ (Nat.le_of_ble_eq_true rfl) ?_
  refine pc_69 hC (fun A2 hC2 => ?_)
  refine lz_a2 dl_442 ?_
  refine lz_arg 1 dl_443 dl_444 dl_445 dl_446 dl_447 (by omega) hL ?_
  refine lz_arg 2 dl_448 dl_449 dl_450 dl_451 dl_452 (by omega) hL ?_
  refine lz_call1 (k2 := 153) (vs := [xs (iN + 1), xs (iN + 2)]) dl_453 lk_15_60 ok_153 rfl rfl rfl (Nat.le_of_ble_eq_true rfl) rfl rfl rfl rfl ⟨(Nat.le_of_ble_eq_true rfl), (Nat.le_of_ble_eq_true rfl)⟩ (Nat.le_of_ble_eq_true rfl) ?_
  refine pd_153 hM (fun B2 hM2 => ?_)
  refine lz_eq (tgt := 783) dl_456 rfl ?_
  exact k _ _ _ hC2 hM2
theorem lz_k11 {L : Nat} {xs : Nat → Int32} {iN : Nat} {σ : Sig} {A B : Mem} (hL : L ≤ 2048) (h4 : iN + 4 ≤ L) (hC : CW σ A) (hM : MW σ B) (k : ∀ (σ : Sig) (A B : Mem), CW σ A → MW σ B → lz_P L xs 783 iN [] A B) : lz_P L xs 461 iN [] A B := by
  refine lz_a1 dl_461 ?_
  refine lz_arg 1 dl_462 dl_463 dl_464 dl_465 dl_466 (by omega) hL ?_
  refine lz_arg 2 dl_467 dl_468 dl_469 dl_470 dl_471 (by omega) hL ?_
  refine lz_call0 (k2 := 70) (vs := [xs (iN + 1), xs (iN + 2)]) dl_472 lk_15_61 ok_70 rfl rfl rfl (Nat.le_of_ble_eq_true rfl) rfl rfl rfl rfl ⟨(Nat.le_of_ble_eq_true rfl), (Nat.le_of_ble_eq_true rfl)⟩ (Nat.le_of_ble_eq_true rfl) ?_
  refine pc_70 hC (fun A2 hC2 => ?_)
  refine lz_a2 dl_475 ?_
  refine lz_arg 1 dl_476 dl_477 dl_478 dl_479 dl_480 (by omega) hL ?_
  refine lz_arg 2 dl_481 dl_482 dl_483 dl_484 dl_485 (by omega) hL ?_
  refine lz_call1 (k2 := 156) (vs := [xs (iN + 1), xs (iN + 2)]) dl_486 lk_15_64 ok_156 rfl rfl rfl (Nat.le_of_ble_eq_true rfl) rfl rfl rfl rfl ⟨(Nat.le_of_ble_eq_true rfl), (Nat.le_of_ble_eq_true rfl)⟩ (Nat.le_of_ble_eq_true rfl) ?_
  refine pd_156 hM (fun B2 hM2 => ?_)
  refine lz_eq (tgt := 783) dl_489 rfl ?_
  exact k _ _ _ hC2 hM2
theorem lz_k12 {L : Nat} {xs : Nat → Int32} {iN : Nat} {σ : Sig} {A B : Mem} (hL : L ≤ 2048) (h4 : iN + 4 ≤ L) (hC : CW σ A) (hM : MW σ B) (k : ∀ (σ : Sig) (A B : Mem), CW σ A → MW σ B → lz_P L xs 783 iN [] A B) : lz_P L xs 494 iN [] A B := by
  refine lz_a1 dl_494 ?_
  refine lz_arg 1 dl_495 dl_496 dl_497 dl_498 dl_499 (by omega) hL ?_
  refine lz_arg 2 dl_500 dl_501 dl_502 dl_503 dl_504 (by omega) hL ?_
  refine lz_call0 (k2 := 71) (vs := [xs (iN + 1), xs (iN + 2)]) dl_505 lk_15_65 ok_71 rfl rfl rfl (Nat.le_of_ble_eq_true rfl) rfl rfl rfl rfl ⟨(Nat.le_of_ble_eq_true rfl), (Nat.le_of_ble_eq_true rfl)⟩ (Nat.le_of_ble_eq_true rfl) ?_
  refine pc_71 hC (fun A2 hC2 => ?_)
  refine lz_a2 dl_508 ?_
  refine lz_arg 1 dl_509 dl_510 dl_511 dl_512 dl_513 (by omega) hL ?_
  refine lz_arg 2 dl_514 dl_515 dl_516 dl_517 dl_518 (by omega) hL ?_
  refine lz_call1 (k2 := 157) (vs := [xs (iN + 1), xs (iN + 2)]) dl_519 lk_15_68 ok_157 rfl rfl rfl (Nat.le_of_ble_eq_true rfl) rfl rfl rfl rfl ⟨(Nat.le_of_ble_eq_true rfl), (Nat.le_of_ble_eq_true rfl)⟩ (Nat.le_of_ble_eq_true rfl) ?_
  refine pd_157 hM (fun B2 hM2 => ?_)
  refine lz_eq (tgt := 783) dl_522 rfl ?_
  exact k _ _ _ hC2 hM2
theorem lz_k13 {L : Nat} {xs : Nat → Int32} {iN : Nat} {σ : Sig} {A B : Mem} (hL : L ≤ 2048) (h4 : iN + 4 ≤ L) (hC : CW σ A) (hM : MW σ B) (k : ∀ (σ : Sig) (A B : Mem), CW σ A → MW σ B → lz_P L xs 783 iN [] A B) : lz_P L xs 527 iN [] A B := by
  refine lz_a1 dl_527 ?_
  refine lz_arg 1 dl_528 dl_529 dl_530 dl_531 dl_532 (by omega) hL ?_
  refine lz_arg 2 dl_533 dl_534 dl_535 dl_536 dl_537 (by omega) hL ?_
  refine lz_call0 (k2 := 72) (vs := [xs (iN + 1), xs (iN + 2)]) dl_538 lk_15_69 ok_72 rfl rfl rfl (Nat.le_of_ble_eq_true rfl) rfl rfl rfl rfl ⟨(Nat.le_of_ble_eq_true rfl), (Nat.le_of_ble_eq_true rfl)⟩ (Nat.le_of_ble_eq_true rfl) ?_
  refine pc_72 hC (fun A2 hC2 => ?_)
  refine lz_a2 dl_541 ?_
  refine lz_arg 1 dl_542 dl_543 dl_544 dl_545 dl_546 (by omega) hL ?_
  refine lz_arg 2 dl_547 dl_548 dl_549 dl_550 dl_551 (by omega) hL ?_
  refine lz_call1 (k2 := 159) (vs := [xs (iN + 1), xs (iN + 2)]) dl_552 lk_15_72 ok_159 rfl rfl rfl (Nat.le_of_ble_eq_true rfl) rfl rfl rfl rfl ⟨(Nat.le_of_ble_eq_true rfl), (Nat.le_of_ble_eq_true rfl)⟩ (Nat.le_of_ble_eq_true rfl) ?_
  refine pd_159 hM (fun B2 hM2 => ?_)
  refine lz_eq (tgt := 783) dl_555 rfl ?_
  exact k _ _ _ hC2 hM2
theorem lz_k14 {L : Nat} {xs : Nat → Int32} {iN : Nat} {σ : Sig} {A B : Mem} (hL : L ≤ 2048) (h4 : iN + 4 ≤ L) (hC : CW σ A) (hM : MW σ B) (k : ∀ (σ : Sig) (A B : Mem), CW σ A → MW σ B → lz_P L xs 783 iN [] A B) : lz_P L xs 560 iN [] A B := by
  refine lz_a1 dl_560 ?_
  refine lz_arg 1 dl_561 dl_562 dl_563 dl_564 dl_565 (by omega) hL ?_
  refine lz_arg 2 dl_566 dl_567 dl_568 dl_569 dl_570 (by omega) hL ?_
  refine lz_call0 (k2 := 73) (vs := [xs (iN + 1), xs (iN + 2)]) dl_571 lk_15_73 ok_73 rfl rfl rfl (Nat.le_of_ble_eq_true rfl) rfl rfl rfl rfl ⟨(Nat.le_of_ble_eq_true rfl), (Nat.le_of_ble_eq_true rfl)⟩ (Nat.le_of_ble_eq_true rfl) ?_
  refine pc_73 hC (fun A2 hC2 => ?_)
  refine lz_a2 dl_574 ?_
  refine lz_arg 1 dl_575 dl_576 dl_577 dl_578 dl_579 (by omega) hL ?_
  refine lz_arg 2 dl_580 dl_581 dl_582 dl_583 dl_584 (by omega) hL ?_
  refine lz_call1 (k2 := 160) (vs := [xs (iN + 1), xs (iN + 2)]) dl_585 lk_15_76 ok_160 rfl rfl rfl (Nat.le_of_ble_eq_true rfl) rfl rfl rfl rfl ⟨(Nat.le_of_ble_eq_true rfl), (Nat.le_of_ble_eq_true rfl)⟩ (Nat.le_of_ble_eq_true rfl) ?_
  refine pd_160 hM (fun B2 hM2 => ?_)
  refine lz_eq (tgt := 783) dl_588 rfl ?_
  exact k _ _ _ hC2 hM2
theorem lz_k15 {L : Nat} {xs : Nat → Int32} {iN : Nat} {σ : Sig} {A B : Mem} (hL : L ≤ 2048) (h4 : iN + 4 ≤ L) (hC : CW σ A) (hM : MW σ B) (k : ∀ (σ : Sig) (A B : Mem), CW σ A → MW σ B → lz_P L xs 783 iN [] A B) : lz_P L xs 593 iN [] A B := by
  refine lz_a1 dl_593 ?_
  refine lz_arg 1 dl_594 dl_595 dl_596 dl_597 dl_598 (by omega) hL ?_
  refine lz_call0 (k2 := 74) (vs := [xs (iN + 1)]) dl_599 lk_15_77 ok_74 rfl rfl rfl (Nat.le_of_ble_eq_true rfl) rfl rfl rfl rfl ⟨(Nat.le_of_ble_eq_true rfl), (Nat.le_of_ble_eq_true rfl)⟩ (Nat.le_of_ble_eq_true rfl) ?_
  refine pc_74 hC (fun A2 hC2 => ?_)
  refine lz_a2 dl_602 ?_
  refine lz_arg 1 dl_603 dl_604 dl_605 dl_606 dl_607 (by omega) hL ?_
  refine lz_call1 (k2 := 162) (vs := [xs (iN + 1)]) dl_608 lk_15_80 ok_162 rfl rfl rfl (Nat.le_of_ble_eq_true rfl) rfl rfl rfl rfl ⟨(Nat.le_of_ble_eq_true rfl), (Nat.le_of_ble_eq_true rfl)⟩ (Nat.le_of_ble_eq_true rfl) ?_
  refine pd_162 hM (fun B2 hM2 => ?_)
  refine lz_eq (tgt := 783) dl_611 rfl ?_
  exact k _ _ _ hC2 hM2
theorem lz_k16 {L : Nat} {xs : Nat → Int32} {iN : Nat} {σ : Sig} {A B : Mem} (hL : L ≤ 2048) (h4 : iN + 4 ≤ L) (hC : CW σ A) (hM : MW σ B) (k : ∀ (σ : Sig) (A B : Mem), CW σ A → MW σ B → lz_P L xs 783 iN [] A B) : lz_P L xs 616 iN [] A B := by
  refine lz_a1 dl_616 ?_
  refine lz_arg 1 dl_617 dl_618 dl_619 dl_620 dl_621 (by omega) hL ?_
  refine lz_call0 (k2 := 75) (vs := [xs (iN + 1)]) dl_622 lk_15_81 ok_75 rfl rfl rfl (Nat.le_of_ble_eq_true rfl) rfl rfl rfl rfl ⟨(Nat.le_of_ble_eq_true rfl), (Nat.le_of_ble_eq_true rfl)⟩ (Nat.le_of_ble_eq_true rfl) ?_
  refine pc_75 hC (fun A2 hC2 => ?_)
  refine lz_a2 dl_625 ?_
  refine lz_arg 1 dl_626 dl_627 dl_628 dl_629 dl_630 (by omega) hL ?_
  refine lz_call1 (k2 := 163) (vs := [xs (iN + 1)]) dl_631 lk_15_84 ok_163 rfl rfl rfl (Nat.le_of_ble_eq_true rfl) rfl rfl rfl rfl ⟨(Nat.le_of_ble_eq_true rfl), (Nat.le_of_ble_eq_true rfl)⟩ (Nat.le_of_ble_eq_true rfl) ?_
  refine pd_163 hM (fun B2 hM2 => ?_)
  refine lz_eq (tgt := 783) dl_634 rfl ?_
  exact k _ _ _ hC2 hM2
theorem lz_k17 {L : Nat} {xs : Nat → Int32} {iN : Nat} {σ : Sig} {A B : Mem} (hL : L ≤ 2048) (h4 : iN + 4 ≤ L) (hC : CW σ A) (hM : MW σ B) (k : ∀ (σ : Sig) (A B : Mem), CW σ A → MW σ B → lz_P L xs 783 iN [] A B) : lz_P L xs 639 iN [] A B := by
  refine lz_a1 dl_639 ?_
  refine lz_call0 (k2 := 76) (vs := []) dl_640 lk_15_85 ok_76 rfl rfl rfl (Nat.le_of_ble_eq_true rfl) rfl rfl rfl rfl ⟨(Nat.le_of_ble_eq_true rfl), (Nat.le_of_ble_eq_true rfl)⟩ (Nat.le_of_ble_eq_true rfl) ?_
  refine pc_76 hC (fun A2 hC2 => ?_)
  refine lz_a2 dl_643 ?_
  refine lz_call1 (k2 := 165) (vs := []) dl_644 lk_15_88 ok_165 rfl rfl rfl (Nat.le_of_ble_eq_true rfl) rfl rfl rfl rfl ⟨(Nat.le_of_ble_eq_true rfl), (Nat.le_of_ble_eq_true rfl)⟩ (Nat.le_of_ble_eq_true rfl) ?_
  refine pd_165 hM (fun B2 hM2 => ?_)
  refine lz_eq (tgt := 783) dl_647 rfl ?_
  exact k _ _ _ hC2 hM2
theorem lz_k18 {L : Nat} {xs : Nat → Int32} {iN : Nat} {σ : Sig} {A B : Mem} (hL : L ≤ 2048) (h4 : iN + 4 ≤ L) (hC : CW σ A) (hM : MW σ B) (k : ∀ (σ : Sig) (A B : Mem), CW σ A → MW σ B → lz_P L xs 783 iN [] A B) : lz_P L xs 652 iN [] A B := by
  refine lz_a1 dl_652 ?_
  refine lz_call0 (k2 := 77) (vs := []) dl_653 lk_15_89 ok_77 rfl rfl rfl (Nat.le_of_ble_eq_true rfl) rfl rfl rfl rfl ⟨(Nat.le_of_ble_eq_true rfl), (Nat.le_of_ble_eq_true rfl)⟩ (Nat.le_of_ble_eq_true rfl) ?_
  refine pc_77 hC (fun A2 hC2 => ?_)
  refine lz_a2 dl_656 ?_
  refine lz_call1 (k2 := 166) (vs := []) dl_657 lk_15_92 ok_166 rfl rfl rfl (Nat.le_of_ble_eq_true rfl) rfl rfl rfl rfl ⟨(Nat.le_of_ble_eq_true rfl), (Nat.le_of_ble_eq_true rfl)⟩ (Nat.le_of_ble_eq_true rfl) ?_
  refine pd_166 hM (fun B2 hM2 => ?_)
  refine lz_eq (tgt := 783) dl_660 rfl ?_
  exact k _ _ _ hC2 hM2
theorem lz_k19 {L : Nat} {xs : Nat → Int32} {iN : Nat} {σ : Sig} {A B : Mem} (hL : L ≤ 2048) (h4 : iN + 4 ≤ L) (hC : CW σ A) (hM : MW σ B) (k : ∀ (σ : Sig) (A B : Mem), CW σ A → MW σ B → lz_P L xs 783 iN [] A B) : lz_P L xs 665 iN [] A B := by
  refine lz_a1 dl_665 ?_
  refine lz_arg 1 dl_666 dl_667 dl_668 dl_669 dl_670 (by omega) hL ?_
  refine lz_call0 (k2 := 78) (vs := [xs (iN + 1)]) dl_671 lk_15_93 ok_78 rfl rfl rfl (Nat.le_of_ble_eq_true rfl) rfl rfl rfl rfl ⟨(Nat.le_of_ble_eq_true rfl), (Nat.le_of_ble_eq_true rfl)⟩ (Nat.le_of_ble_eq_true rfl) ?_
  refine pc_78 hC (fun A2 hC2 => ?_)
  refine lz_a2 dl_674 ?_
  refine lz_arg 1 dl_675 dl_676 dl_677 dl_678 dl_679 (by omega) hL ?_
  refine lz_call1 (k2 := 171) (vs := [xs (iN + 1)]) dl_680 lk_15_96 ok_171 rfl rfl rfl (Nat.le_of_ble_eq_true rfl) rfl rfl rfl rfl ⟨(Nat.le_of_ble_eq_true rfl), (Nat.le_of_ble_eq_true rfl)⟩ (Nat.le_of_ble_eq_true rfl) ?_
  refine pd_171 hM (fun B2 hM2 => ?_)
  refine lz_eq (tgt := 783) dl_683 rfl ?_
  exact k _ _ _ hC2 hM2
theorem lz_k20 {L : Nat} {xs : Nat → Int32} {iN : Nat} {σ : Sig} {A B : Mem} (hL : L ≤ 2048) (h4 : iN + 4 ≤ L) (hC : CW σ A) (hM : MW σ B) (k : ∀ (σ : Sig) (A B : Mem), CW σ A → MW σ B → lz_P L xs 783 iN [] A B) : lz_P L xs 688 iN [] A B := by
  refine lz_a1 dl_688 ?_
  refine lz_arg 1 dl_689 dl_690 dl_691 dl_692 dl_693 (by omega) hL ?_
  refine lz_call0 (k2 := 79) (vs := [xs (iN + 1)]) dl_694 lk_15_97 ok_79 rfl rfl rfl (Nat.le_of_ble_eq_true rfl) rfl rfl rfl rfl ⟨(Nat.le_of_ble_eq_true rfl), (Nat.le_of_ble_eq_true rfl)⟩ (Nat.le_of_ble_eq_true rfl) ?_
  refine pc_79 hC (fun A2 hC2 => ?_)
  refine lz_a2 dl_697 ?_
  refine lz_arg 1 dl_698 dl_699 dl_700 dl_701 dl_702 (by omega) hL ?_
  refine lz_call1 (k2 := 173) (vs := [xs (iN + 1)]) dl_703 lk_15_100 ok_173 rfl rfl rfl (Nat.le_of_ble_eq_true rfl) rfl rfl rfl rfl ⟨(Nat.le_of_ble_eq_true rfl), (Nat.le_of_ble_eq_true rfl)⟩ (Nat.le_of_ble_eq_true rfl) ?_
  refine pd_173 hM (fun B2 hM2 => ?_)
  refine lz_eq (tgt := 783) dl_706 rfl ?_
  exact k _ _ _ hC2 hM2
theorem lz_k21 {L : Nat} {xs : Nat → Int32} {iN : Nat} {σ : Sig} {A B : Mem} (hL : L ≤ 2048) (h4 : iN + 4 ≤ L) (hC : CW σ A) (hM : MW σ B) (k : ∀ (σ : Sig) (A B : Mem), CW σ A → MW σ B → lz_P L xs 783 iN [] A B) : lz_P L xs 711 iN [] A B := by
  refine lz_a1 dl_711 ?_
  refine lz_arg 1 dl_712 dl_713 dl_714 dl_715 dl_716 (by omega) hL ?_
  refine lz_call0 (k2 := 80) (vs := [xs (iN + 1)]) dl_717 lk_15_101 ok_80 rfl rfl rfl (Nat.le_of_ble_eq_true rfl) rfl rfl rfl rfl ⟨(Nat.le_of_ble_eq_true rfl), (Nat.le_of_ble_eq_true rfl)⟩ (Nat.le_of_ble_eq_true rfl) ?_
  refine pc_80 hC (fun A2 hC2 => ?_)
  refine lz_a2 dl_720 ?_
  refine lz_arg 1 dl_721 dl_722 dl_723 dl_724 dl_725 (by omega) hL ?_
  refine lz_call1 (k2 := 174) (vs := [xs (iN + 1)]) dl_726 lk_15_104 ok_174 rfl rfl rfl (Nat.le_of_ble_eq_true rfl) rfl rfl rfl rfl ⟨(Nat.le_of_ble_eq_true rfl), (Nat.le_of_ble_eq_true rfl)⟩ (Nat.le_of_ble_eq_true rfl) ?_
  refine pd_174 hM (fun B2 hM2 => ?_)
  refine lz_eq (tgt := 783) dl_729 rfl ?_
  exact k _ _ _ hC2 hM2
theorem lz_k22 {L : Nat} {xs : Nat → Int32} {iN : Nat} {σ : Sig} {A B : Mem} (hL : L ≤ 2048) (h4 : iN + 4 ≤ L) (hC : CW σ A) (hM : MW σ B) (k : ∀ (σ : Sig) (A B : Mem), CW σ A → MW σ B → lz_P L xs 783 iN [] A B) : lz_P L xs 734 iN [] A B := by
  refine lz_a1 dl_734 ?_
  refine lz_call0 (k2 := 81) (vs := []) dl_735 lk_15_105 ok_81 rfl rfl rfl (Nat.le_of_ble_eq_true rfl) rfl rfl rfl rfl ⟨(Nat.le_of_ble_eq_true rfl), (Nat.le_of_ble_eq_true rfl)⟩ (Nat.le_of_ble_eq_true rfl) ?_
  refine pc_81 hC (fun A2 hC2 => ?_)
  refine lz_a2 dl_738 ?_
  refine lz_call1 (k2 := 175) (vs := []) dl_739 lk_15_108 ok_175 rfl rfl rfl (Nat.le_of_ble_eq_true rfl) rfl rfl rfl rfl ⟨(Nat.le_of_ble_eq_true rfl), (Nat.le_of_ble_eq_true rfl)⟩ (Nat.le_of_ble_eq_true rfl) ?_
  refine pd_175 hM (fun B2 hM2 => ?_)
  refine lz_eq (tgt := 783) dl_742 rfl ?_
  exact k _ _ _ hC2 hM2
theorem lz_k23 {L : Nat} {xs : Nat → Int32} {iN : Nat} {σ : Sig} {A B : Mem} (hL : L ≤ 2048) (h4 : iN + 4 ≤ L) (hC : CW σ A) (hM : MW σ B) (k : ∀ (σ : Sig) (A B : Mem), CW σ A → MW σ B → lz_P L xs 783 iN [] A B) : lz_P L xs 747 iN [] A B := by
  refine lz_a1 dl_747 ?_
  refine lz_arg 1 dl_748 dl_749 dl_750 dl_751 dl_752 (by omega) hL ?_
  refine lz_call0 (k2 := 82) (vs := [xs (iN + 1)]) dl_753 lk_15_109 ok_82 rfl rfl rfl (Nat.le_of_ble_eq_true rfl) rfl rfl rfl rfl ⟨(Nat.le_of_ble_eq_true rfl), (Nat.le_of_ble_eq_true rfl)⟩ (Nat.le_of_ble_eq_true rfl) ?_
  refine pc_82 hC (fun A2 hC2 => ?_)
  refine lz_a2 dl_756 ?_
  refine lz_arg 1 dl_757 dl_758 dl_759 dl_760 dl_761 (by omega) hL ?_
  refine lz_call1 (k2 := 181) (vs := [xs (iN + 1)]) dl_762 lk_15_112 ok_181 rfl rfl rfl (Nat.le_of_ble_eq_true rfl) rfl rfl rfl rfl ⟨(Nat.le_of_ble_eq_true rfl), (Nat.le_of_ble_eq_true rfl)⟩ (Nat.le_of_ble_eq_true rfl) ?_
  refine pd_181 hM (fun B2 hM2 => ?_)
  refine lz_eq (tgt := 783) dl_765 rfl ?_
  exact k _ _ _ hC2 hM2
theorem lz_k24 {L : Nat} {xs : Nat → Int32} {iN : Nat} {σ : Sig} {A B : Mem} (hL : L ≤ 2048) (h4 : iN + 4 ≤ L) (hC : CW σ A) (hM : MW σ B) (k : ∀ (σ : Sig) (A B : Mem), CW σ A → MW σ B → lz_P L xs 783 iN [] A B) : lz_P L xs 770 iN [] A B := by
  refine lz_a1 dl_770 ?_
  refine lz_call0 (k2 := 83) (vs := []) dl_771 lk_15_113 ok_83 rfl rfl rfl (Nat.le_of_ble_eq_true rfl) rfl rfl rfl rfl ⟨(Nat.le_of_ble_eq_true rfl), (Nat.le_of_ble_eq_true rfl)⟩ (Nat.le_of_ble_eq_true rfl) ?_
  refine pc_83 hC (fun A2 hC2 => ?_)
  refine lz_a2 dl_774 ?_
  refine lz_call1 (k2 := 182) (vs := []) dl_775 lk_15_116 ok_182 rfl rfl rfl (Nat.le_of_ble_eq_true rfl) rfl rfl rfl rfl ⟨(Nat.le_of_ble_eq_true rfl), (Nat.le_of_ble_eq_true rfl)⟩ (Nat.le_of_ble_eq_true rfl) ?_
  refine pd_182 hM (fun B2 hM2 => ?_)
  refine lz_eq (tgt := 783) dl_778 rfl ?_
  exact k _ _ _ hC2 hM2
theorem lz_loop {L : Nat} {xs : Nat → Int32} (hL : L ≤ 2048) : ∀ (n iN : Nat) (σ : Sig) (A B : Mem), L + 1 ≤ iN + n → iN ≤ L → CW σ A → MW σ B → lz_P L xs 18 iN [] A B := by
  intro n
  induction n with
  | zero =>
    intro iN σ A B h1 h2
    exact absurd h1 (by omega)
  | succ n ih =>
    intro iN σ A B h1 h2 hC hM
    refine lz_i3 dl_18 (lz_a0 dl_19 (lz_len dl_20 (lz_ic (v := 4) dl_21 (by decide) (lz_sub dl_22 (lz_gt (tgt := 789) dl_23 rfl hL (by omega) (fun _ => lz_end dl_789 dl_790) (fun h4 => ?_))))))
    refine lz_a0 dl_26 (lz_i3 dl_27 (lz_ld dl_28 (by omega) hL (lz_bi (v := 31) dl_29 (by decide) (lz_iand dl_31 ?_))))
    have kk : ∀ (σ : Sig) (A B : Mem), CW σ A → MW σ B → lz_P L xs 783 iN [] A B := fun σ A B hC hM => lz_next (tgt := 18) dl_783 dl_786 rfl (ih (iN + 4) σ A B (by omega) h4 hC hM)
    obtain ⟨y, hy, ey⟩ := lz_and (xs iN)
    rw [ey]
    rcases (show y = 0 ∨ y = 1 ∨ y = 2 ∨ y = 3 ∨ y = 4 ∨ y = 5 ∨ y = 6 ∨ y = 7 ∨ y = 8 ∨ y = 9 ∨ y = 10 ∨ y = 11 ∨ y = 12 ∨ y = 13 ∨ y = 14 ∨ y = 15 ∨ y = 16 ∨ y = 17 ∨ y = 18 ∨ y = 19 ∨ y = 20 ∨ y = 21 ∨ y = 22 ∨ y = 23 ∨ y = 24 ∨ 25 ≤ y by omega) with rfl | rfl | rfl | rfl | rfl | rfl | rfl | rfl | rfl | rfl | rfl | rfl | rfl | rfl | rfl | rfl | rfl | rfl | rfl | rfl | rfl | rfl | rfl | rfl | rfl | h25
    · exact lz_swIn (off := 116) (tgt := 148) dl_32 (by decide) (by decide) (by decide +kernel) rfl (lz_k0 hL h4 hC hM kk)
    · exact lz_swIn (off := 139) (tgt := 171) dl_32 (by decide) (by decide) (by decide +kernel) rfl (lz_k1 hL h4 hC hM kk)
    · exact lz_swIn (off := 162) (tgt := 194) dl_32 (by decide) (by decide) (by decide +kernel) rfl (lz_k2 hL h4 hC hM kk)
    · exact lz_swIn (off := 185) (tgt := 217) dl_32 (by decide) (by decide) (by decide +kernel) rfl (lz_k3 hL h4 hC hM kk)
    · exact lz_swIn (off := 218) (tgt := 250) dl_32 (by decide) (by decide) (by decide +kernel) rfl (lz_k4 hL h4 hC hM kk)
    · exact lz_swIn (off := 241) (tgt := 273) dl_32 (by decide) (by decide) (by decide +kernel) rfl (lz_k5 hL h4 hC hM kk)
    · exact lz_swIn (off := 254) (tgt := 286) dl_32 (by decide) (by decide) (by decide +kernel) rfl (lz_k6 hL h4 hC hM kk)
    · exact lz_swIn (off := 287) (tgt := 319) dl_32 (by decide) (by decide) (by decide +kernel) rfl (lz_k7 hL h4 hC hM kk)
    · exact lz_swIn (off := 330) (tgt := 362) dl_32 (by decide) (by decide) (by decide +kernel) rfl (lz_k8 hL h4 hC hM kk)
    · exact lz_swIn (off := 363) (tgt := 395) dl_32 (by decide) (by decide) (by decide +kernel) rfl (lz_k9 hL h4 hC hM kk)
    · exact lz_swIn (off := 396) (tgt := 428) dl_32 (by decide) (by decide) (by decide +kernel) rfl (lz_k10 hL h4 hC hM kk)
    · exact lz_swIn (off := 429) (tgt := 461) dl_32 (by decide) (by decide) (by decide +kernel) rfl (lz_k11 hL h4 hC hM kk)
    · exact lz_swIn (off := 462) (tgt := 494) dl_32 (by decide) (by decide) (by decide +kernel) rfl (lz_k12 hL h4 hC hM kk)
    · exact lz_swIn (off := 495) (tgt := 527) dl_32 (by decide) (by decide) (by decide +kernel) rfl (lz_k13 hL h4 hC hM kk)
    · exact lz_swIn (off := 528) (tgt := 560) dl_32 (by decide) (by decide) (by decide +kernel) rfl (lz_k14 hL h4 hC hM kk)
    · exact lz_swIn (off := 561) (tgt := 593) dl_32 (by decide) (by decide) (by decide +kernel) rfl (lz_k15 hL h4 hC hM kk)
    · exact lz_swIn (off := 584) (tgt := 616) dl_32 (by decide) (by decide) (by decide +kernel) rfl (lz_k16 hL h4 hC hM kk)
    · exact lz_swIn (off := 607) (tgt := 639) dl_32 (by decide) (by decide) (by decide +kernel) rfl (lz_k17 hL h4 hC hM kk)
    · exact lz_swIn (off := 620) (tgt := 652) dl_32 (by decide) (by decide) (by decide +kernel) rfl (lz_k18 hL h4 hC hM kk)
    · exact lz_swIn (off := 633) (tgt := 665) dl_32 (by decide) (by decide) (by decide +kernel) rfl (lz_k19 hL h4 hC hM kk)
    · exact lz_swIn (off := 656) (tgt := 688) dl_32 (by decide) (by decide) (by decide +kernel) rfl (lz_k20 hL h4 hC hM kk)
    · exact lz_swIn (off := 679) (tgt := 711) dl_32 (by decide) (by decide) (by decide +kernel) rfl (lz_k21 hL h4 hC hM kk)
    · exact lz_swIn (off := 702) (tgt := 734) dl_32 (by decide) (by decide) (by decide +kernel) rfl (lz_k22 hL h4 hC hM kk)
    · exact lz_swIn (off := 715) (tgt := 747) dl_32 (by decide) (by decide) (by decide +kernel) rfl (lz_k23 hL h4 hC hM kk)
    · exact lz_swIn (off := 738) (tgt := 770) dl_32 (by decide) (by decide) (by decide +kernel) rfl (lz_k24 hL h4 hC hM kk)
    · exact lz_swOut (tgt := 783) dl_32 (Or.inr (by rw [nI_toInt (by omega)]; omega)) rfl (kk σ A B hC hM)
