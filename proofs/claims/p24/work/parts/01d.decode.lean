theorem dL_isStep_110 : decode cL_isStep 110 = .ok (.iconst 1, 1) := by decide +kernel
theorem dL_isStep_111 : decode cL_isStep 111 = .ok (.iload_n 3, 1) := by decide +kernel
theorem dL_isStep_112 : decode cL_isStep 112 = .ok (.iload 4, 2) := by decide +kernel
theorem dL_isStep_114 : decode cL_isStep 114 = .ok (.iconst 2, 1) := by decide +kernel
theorem dL_isStep_115 : decode cL_isStep 115 = .ok (.invokestatic 19, 3) := by decide +kernel
theorem dL_isStep_118 : decode cL_isStep 118 = .ok (.ifCond .ne 8, 3) := by decide +kernel
theorem dL_isStep_121 : decode cL_isStep 121 = .ok (.bipush 16, 2) := by decide +kernel
theorem dL_isStep_123 : decode cL_isStep 123 = .ok (.goto 4, 3) := by decide +kernel
theorem dL_isStep_126 : decode cL_isStep 126 = .ok (.iconst 3, 1) := by decide +kernel
theorem dL_isStep_127 : decode cL_isStep 127 = .ok (.invokestatic 19, 3) := by decide +kernel
theorem dL_isStep_130 : decode cL_isStep 130 = .ok (.iadd, 1) := by decide +kernel
theorem dL_isStep_131 : decode cL_isStep 131 = .ok (.goto 23, 3) := by decide +kernel
theorem dL_isStep_134 : decode cL_isStep 134 = .ok (.iload 7, 2) := by decide +kernel
theorem dL_isStep_136 : decode cL_isStep 136 = .ok (.iconst 2, 1) := by decide +kernel
theorem dL_isStep_137 : decode cL_isStep 137 = .ok (.if_icmp .ne 11, 3) := by decide +kernel
theorem dL_isStep_140 : decode cL_isStep 140 = .ok (.iload_n 3, 1) := by decide +kernel
theorem dL_isStep_141 : decode cL_isStep 141 = .ok (.iconst 2, 1) := by decide +kernel
theorem dL_isStep_142 : decode cL_isStep 142 = .ok (.invokestatic 19, 3) := by decide +kernel
theorem dL_isStep_145 : decode cL_isStep 145 = .ok (.goto 9, 3) := by decide +kernel
theorem dL_isStep_148 : decode cL_isStep 148 = .ok (.iload_n 3, 1) := by decide +kernel
theorem dL_isStep_149 : decode cL_isStep 149 = .ok (.bipush 51, 2) := by decide +kernel
theorem dL_isStep_151 : decode cL_isStep 151 = .ok (.invokestatic 19, 3) := by decide +kernel
theorem dL_isStep_154 : decode cL_isStep 154 = .ok (.istore 8, 2) := by decide +kernel
theorem dL_isStep_156 : decode cL_isStep 156 = .ok (.aload_n 0, 1) := by decide +kernel
theorem dL_isStep_157 : decode cL_isStep 157 = .ok (.bipush 7, 2) := by decide +kernel
theorem dL_isStep_159 : decode cL_isStep 159 = .ok (.iload 7, 2) := by decide +kernel
theorem dL_isStep_161 : decode cL_isStep 161 = .ok (.iadd, 1) := by decide +kernel
theorem dL_isStep_162 : decode cL_isStep 162 = .ok (.invokevirtual 24, 3) := by decide +kernel
theorem dL_isStep_165 : decode cL_isStep 165 = .ok (.istore 9, 2) := by decide +kernel
theorem dL_isStep_167 : decode cL_isStep 167 = .ok (.aload_n 0, 1) := by decide +kernel
theorem dL_isStep_168 : decode cL_isStep 168 = .ok (.iload 7, 2) := by decide +kernel
theorem dL_isStep_170 : decode cL_isStep 170 = .ok (.iload 8, 2) := by decide +kernel
theorem dL_isStep_172 : decode cL_isStep 172 = .ok (.invokevirtual 28, 3) := by decide +kernel
theorem dL_isStep_175 : decode cL_isStep 175 = .ok (.iload 9, 2) := by decide +kernel
theorem dL_isStep_177 : decode cL_isStep 177 = .ok (.if_icmp .ne 34, 3) := by decide +kernel
theorem dL_isStep_180 : decode cL_isStep 180 = .ok (.aload_n 1, 1) := by decide +kernel
theorem dL_isStep_181 : decode cL_isStep 181 = .ok (.iload 7, 2) := by decide +kernel
theorem dL_isStep_183 : decode cL_isStep 183 = .ok (.iload 8, 2) := by decide +kernel
theorem dL_isStep_185 : decode cL_isStep 185 = .ok (.invokevirtual 28, 3) := by decide +kernel
theorem dL_isStep_188 : decode cL_isStep 188 = .ok (.iload 9, 2) := by decide +kernel
theorem dL_isStep_190 : decode cL_isStep 190 = .ok (.if_icmp .ne 21, 3) := by decide +kernel
theorem dL_isStep_193 : decode cL_isStep 193 = .ok (.aload_n 0, 1) := by decide +kernel
theorem dL_isStep_194 : decode cL_isStep 194 = .ok (.bipush 7, 2) := by decide +kernel
theorem dL_isStep_196 : decode cL_isStep 196 = .ok (.iload 7, 2) := by decide +kernel
theorem dL_isStep_198 : decode cL_isStep 198 = .ok (.iadd, 1) := by decide +kernel
theorem dL_isStep_199 : decode cL_isStep 199 = .ok (.invokevirtual 24, 3) := by decide +kernel
theorem dL_isStep_202 : decode cL_isStep 202 = .ok (.iload 8, 2) := by decide +kernel
theorem dL_isStep_204 : decode cL_isStep 204 = .ok (.if_icmp .ne 7, 3) := by decide +kernel
theorem dL_isStep_207 : decode cL_isStep 207 = .ok (.iconst 1, 1) := by decide +kernel
theorem dL_isStep_208 : decode cL_isStep 208 = .ok (.goto 4, 3) := by decide +kernel
theorem dL_isStep_211 : decode cL_isStep 211 = .ok (.iconst 0, 1) := by decide +kernel
theorem dL_isStep_212 : decode cL_isStep 212 = .ok (.ireturn, 1) := by decide +kernel
theorem dL_isStep_213 : decode cL_isStep 213 = .ok (.iconst 1, 1) := by decide +kernel
theorem dL_isStep_214 : decode cL_isStep 214 = .ok (.iload_n 3, 1) := by decide +kernel
theorem dL_isStep_215 : decode cL_isStep 215 = .ok (.iload 4, 2) := by decide +kernel
theorem dL_isStep_217 : decode cL_isStep 217 = .ok (.iconst 2, 1) := by decide +kernel
theorem dL_isStep_218 : decode cL_isStep 218 = .ok (.invokestatic 19, 3) := by decide +kernel
theorem dL_isStep_221 : decode cL_isStep 221 = .ok (.ifCond .ne 8, 3) := by decide +kernel
theorem dL_isStep_224 : decode cL_isStep 224 = .ok (.bipush 32, 2) := by decide +kernel
theorem dL_isStep_226 : decode cL_isStep 226 = .ok (.goto 4, 3) := by decide +kernel
theorem dL_isStep_229 : decode cL_isStep 229 = .ok (.iconst 5, 1) := by decide +kernel
theorem dL_isStep_230 : decode cL_isStep 230 = .ok (.invokestatic 19, 3) := by decide +kernel
theorem dL_isStep_233 : decode cL_isStep 233 = .ok (.iadd, 1) := by decide +kernel
theorem dL_isStep_234 : decode cL_isStep 234 = .ok (.istore 7, 2) := by decide +kernel
theorem dL_isStep_236 : decode cL_isStep 236 = .ok (.iconst 1, 1) := by decide +kernel
theorem dL_isStep_237 : decode cL_isStep 237 = .ok (.iload_n 3, 1) := by decide +kernel
theorem dL_isStep_238 : decode cL_isStep 238 = .ok (.bipush 6, 2) := by decide +kernel
theorem dL_isStep_240 : decode cL_isStep 240 = .ok (.ishr, 1) := by decide +kernel
theorem dL_isStep_241 : decode cL_isStep 241 = .ok (.iload 4, 2) := by decide +kernel
theorem dL_isStep_243 : decode cL_isStep 243 = .ok (.iconst 3, 1) := by decide +kernel
theorem dL_isStep_244 : decode cL_isStep 244 = .ok (.ishr, 1) := by decide +kernel
theorem dL_isStep_245 : decode cL_isStep 245 = .ok (.iconst 2, 1) := by decide +kernel
theorem dL_isStep_246 : decode cL_isStep 246 = .ok (.invokestatic 19, 3) := by decide +kernel
theorem dL_isStep_249 : decode cL_isStep 249 = .ok (.ifCond .ne 8, 3) := by decide +kernel
theorem dL_isStep_252 : decode cL_isStep 252 = .ok (.bipush 99, 2) := by decide +kernel
theorem dL_isStep_254 : decode cL_isStep 254 = .ok (.goto 5, 3) := by decide +kernel
theorem dL_isStep_257 : decode cL_isStep 257 = .ok (.bipush 9, 2) := by decide +kernel
theorem dL_isStep_259 : decode cL_isStep 259 = .ok (.invokestatic 19, 3) := by decide +kernel
theorem dL_isStep_262 : decode cL_isStep 262 = .ok (.iadd, 1) := by decide +kernel
theorem dL_isStep_263 : decode cL_isStep 263 = .ok (.istore 8, 2) := by decide +kernel
theorem dL_isStep_265 : decode cL_isStep 265 = .ok (.aload_n 0, 1) := by decide +kernel
theorem dL_isStep_266 : decode cL_isStep 266 = .ok (.iload 5, 2) := by decide +kernel
theorem dL_isStep_268 : decode cL_isStep 268 = .ok (.iconst 0, 1) := by decide +kernel
theorem dL_isStep_269 : decode cL_isStep 269 = .ok (.invokevirtual 15, 3) := by decide +kernel
theorem dL_isStep_272 : decode cL_isStep 272 = .ok (.istore 9, 2) := by decide +kernel
theorem dL_isStep_274 : decode cL_isStep 274 = .ok (.aload_n 0, 1) := by decide +kernel
theorem dL_isStep_275 : decode cL_isStep 275 = .ok (.iload 5, 2) := by decide +kernel
theorem dL_isStep_277 : decode cL_isStep 277 = .ok (.iload 7, 2) := by decide +kernel
theorem dL_isStep_279 : decode cL_isStep 279 = .ok (.iload 8, 2) := by decide +kernel
theorem dL_isStep_281 : decode cL_isStep 281 = .ok (.invokevirtual 31, 3) := by decide +kernel
theorem dL_isStep_284 : decode cL_isStep 284 = .ok (.iload 9, 2) := by decide +kernel
theorem dL_isStep_286 : decode cL_isStep 286 = .ok (.if_icmp .ne 119, 3) := by decide +kernel
theorem dL_isStep_289 : decode cL_isStep 289 = .ok (.aload_n 1, 1) := by decide +kernel
theorem dL_isStep_290 : decode cL_isStep 290 = .ok (.invokevirtual 35, 3) := by decide +kernel
theorem dL_isStep_293 : decode cL_isStep 293 = .ok (.ifCond .lt 112, 3) := by decide +kernel
theorem dL_isStep_296 : decode cL_isStep 296 = .ok (.aload_n 1, 1) := by decide +kernel
theorem dL_isStep_297 : decode cL_isStep 297 = .ok (.ldc2_w 39, 3) := by decide +kernel
theorem dL_isStep_300 : decode cL_isStep 300 = .ok (.invokevirtual 9, 3) := by decide +kernel
theorem dL_isStep_303 : decode cL_isStep 303 = .ok (.ifCond .le 102, 3) := by decide +kernel
theorem dL_isStep_306 : decode cL_isStep 306 = .ok (.aload_n 1, 1) := by decide +kernel
theorem dL_isStep_307 : decode cL_isStep 307 = .ok (.bipush 48, 2) := by decide +kernel
theorem dL_isStep_309 : decode cL_isStep 309 = .ok (.iload 5, 2) := by decide +kernel
theorem dL_isStep_311 : decode cL_isStep 311 = .ok (.iadd, 1) := by decide +kernel
theorem dL_isStep_312 : decode cL_isStep 312 = .ok (.i2l, 1) := by decide +kernel
theorem dL_isStep_313 : decode cL_isStep 313 = .ok (.invokevirtual 9, 3) := by decide +kernel
theorem dL_isStep_316 : decode cL_isStep 316 = .ok (.ifCond .le 89, 3) := by decide +kernel
theorem dL_isStep_319 : decode cL_isStep 319 = .ok (.aload_n 1, 1) := by decide +kernel
theorem dL_isStep_320 : decode cL_isStep 320 = .ok (.ldc2_w 41, 3) := by decide +kernel
theorem dL_isStep_323 : decode cL_isStep 323 = .ok (.invokevirtual 9, 3) := by decide +kernel
theorem dL_isStep_326 : decode cL_isStep 326 = .ok (.ifCond .le 79, 3) := by decide +kernel
theorem dL_isStep_329 : decode cL_isStep 329 = .ok (.aload_n 1, 1) := by decide +kernel
theorem dL_isStep_330 : decode cL_isStep 330 = .ok (.iload 7, 2) := by decide +kernel
theorem dL_isStep_332 : decode cL_isStep 332 = .ok (.invokestatic 43, 3) := by decide +kernel
theorem dL_isStep_335 : decode cL_isStep 335 = .ok (.ifCond .eq 70, 3) := by decide +kernel
theorem dL_isStep_338 : decode cL_isStep 338 = .ok (.aload_n 1, 1) := by decide +kernel
theorem dL_isStep_339 : decode cL_isStep 339 = .ok (.ldc2_w 47, 3) := by decide +kernel
theorem dL_isStep_342 : decode cL_isStep 342 = .ok (.invokevirtual 9, 3) := by decide +kernel
theorem dL_isStep_345 : decode cL_isStep 345 = .ok (.ifCond .le 60, 3) := by decide +kernel
theorem dL_isStep_348 : decode cL_isStep 348 = .ok (.aload_n 1, 1) := by decide +kernel
theorem dL_isStep_349 : decode cL_isStep 349 = .ok (.iload 8, 2) := by decide +kernel
theorem dL_isStep_351 : decode cL_isStep 351 = .ok (.invokestatic 43, 3) := by decide +kernel
theorem dL_isStep_354 : decode cL_isStep 354 = .ok (.ifCond .eq 51, 3) := by decide +kernel
theorem dL_isStep_357 : decode cL_isStep 357 = .ok (.aload_n 1, 1) := by decide +kernel
theorem dL_isStep_358 : decode cL_isStep 358 = .ok (.invokevirtual 49, 3) := by decide +kernel
theorem dL_isStep_361 : decode cL_isStep 361 = .ok (.iconst 1, 1) := by decide +kernel
theorem dL_isStep_362 : decode cL_isStep 362 = .ok (.if_icmp .ne 43, 3) := by decide +kernel
theorem dL_isStep_365 : decode cL_isStep 365 = .ok (.aload_n 0, 1) := by decide +kernel
theorem dL_isStep_366 : decode cL_isStep 366 = .ok (.iload 5, 2) := by decide +kernel
theorem dL_isStep_368 : decode cL_isStep 368 = .ok (.iconst 0, 1) := by decide +kernel
theorem dL_isStep_369 : decode cL_isStep 369 = .ok (.invokevirtual 15, 3) := by decide +kernel
theorem dL_isStep_372 : decode cL_isStep 372 = .ok (.iload 7, 2) := by decide +kernel
theorem dL_isStep_374 : decode cL_isStep 374 = .ok (.if_icmp .ne 31, 3) := by decide +kernel
theorem dL_isStep_377 : decode cL_isStep 377 = .ok (.aload_n 0, 1) := by decide +kernel
theorem dL_isStep_378 : decode cL_isStep 378 = .ok (.iload 5, 2) := by decide +kernel
theorem dL_isStep_380 : decode cL_isStep 380 = .ok (.iconst 1, 1) := by decide +kernel
theorem dL_isStep_381 : decode cL_isStep 381 = .ok (.invokevirtual 15, 3) := by decide +kernel
theorem dL_isStep_384 : decode cL_isStep 384 = .ok (.iload 8, 2) := by decide +kernel
theorem dL_isStep_386 : decode cL_isStep 386 = .ok (.if_icmp .ne 19, 3) := by decide +kernel
theorem dL_isStep_389 : decode cL_isStep 389 = .ok (.aload_n 0, 1) := by decide +kernel
theorem dL_isStep_390 : decode cL_isStep 390 = .ok (.iload 5, 2) := by decide +kernel
theorem dL_isStep_392 : decode cL_isStep 392 = .ok (.iconst 2, 1) := by decide +kernel
theorem dL_isStep_393 : decode cL_isStep 393 = .ok (.invokevirtual 15, 3) := by decide +kernel
theorem dL_isStep_396 : decode cL_isStep 396 = .ok (.iload 7, 2) := by decide +kernel
theorem dL_isStep_398 : decode cL_isStep 398 = .ok (.if_icmp .ne 7, 3) := by decide +kernel
theorem dL_isStep_401 : decode cL_isStep 401 = .ok (.iconst 1, 1) := by decide +kernel
theorem dL_isStep_402 : decode cL_isStep 402 = .ok (.goto 4, 3) := by decide +kernel
theorem dL_isStep_405 : decode cL_isStep 405 = .ok (.iconst 0, 1) := by decide +kernel
theorem dL_isStep_406 : decode cL_isStep 406 = .ok (.ireturn, 1) := by decide +kernel
theorem dL_isStep_407 : decode cL_isStep 407 = .ok (.aload_n 0, 1) := by decide +kernel
theorem dL_isStep_408 : decode cL_isStep 408 = .ok (.iload 5, 2) := by decide +kernel
theorem dL_isStep_410 : decode cL_isStep 410 = .ok (.iconst 5, 1) := by decide +kernel
theorem dL_isStep_411 : decode cL_isStep 411 = .ok (.invokevirtual 15, 3) := by decide +kernel
theorem dL_isStep_414 : decode cL_isStep 414 = .ok (.istore 7, 2) := by decide +kernel
theorem dL_isStep_416 : decode cL_isStep 416 = .ok (.aload_n 0, 1) := by decide +kernel
theorem dL_isStep_417 : decode cL_isStep 417 = .ok (.iload 5, 2) := by decide +kernel
theorem dL_isStep_419 : decode cL_isStep 419 = .ok (.invokevirtual 52, 3) := by decide +kernel
theorem dL_isStep_422 : decode cL_isStep 422 = .ok (.iconst 1, 1) := by decide +kernel
theorem dL_isStep_423 : decode cL_isStep 423 = .ok (.iload 7, 2) := by decide +kernel
theorem dL_isStep_425 : decode cL_isStep 425 = .ok (.isub, 1) := by decide +kernel
theorem dL_isStep_426 : decode cL_isStep 426 = .ok (.if_icmp .ne 59, 3) := by decide +kernel
theorem dL_isStep_429 : decode cL_isStep 429 = .ok (.aload_n 1, 1) := by decide +kernel
theorem dL_isStep_430 : decode cL_isStep 430 = .ok (.invokevirtual 35, 3) := by decide +kernel
theorem dL_isStep_433 : decode cL_isStep 433 = .ok (.ifCond .lt 52, 3) := by decide +kernel
theorem dL_isStep_436 : decode cL_isStep 436 = .ok (.aload_n 1, 1) := by decide +kernel
theorem dL_isStep_437 : decode cL_isStep 437 = .ok (.ldc2_w 55, 3) := by decide +kernel
theorem dL_isStep_440 : decode cL_isStep 440 = .ok (.invokevirtual 9, 3) := by decide +kernel
theorem dL_isStep_443 : decode cL_isStep 443 = .ok (.ifCond .le 42, 3) := by decide +kernel
theorem dL_isStep_446 : decode cL_isStep 446 = .ok (.aload_n 1, 1) := by decide +kernel
theorem dL_isStep_447 : decode cL_isStep 447 = .ok (.bipush 48, 2) := by decide +kernel
theorem dL_isStep_449 : decode cL_isStep 449 = .ok (.iload 5, 2) := by decide +kernel
theorem dL_isStep_451 : decode cL_isStep 451 = .ok (.iadd, 1) := by decide +kernel
theorem dL_isStep_452 : decode cL_isStep 452 = .ok (.i2l, 1) := by decide +kernel
theorem dL_isStep_453 : decode cL_isStep 453 = .ok (.invokevirtual 9, 3) := by decide +kernel
theorem dL_isStep_456 : decode cL_isStep 456 = .ok (.ifCond .le 29, 3) := by decide +kernel
theorem dL_isStep_459 : decode cL_isStep 459 = .ok (.aload_n 1, 1) := by decide +kernel
theorem dL_isStep_460 : decode cL_isStep 460 = .ok (.invokevirtual 49, 3) := by decide +kernel
theorem dL_isStep_463 : decode cL_isStep 463 = .ok (.iconst 1, 1) := by decide +kernel
theorem dL_isStep_464 : decode cL_isStep 464 = .ok (.if_icmp .ne 21, 3) := by decide +kernel
theorem dL_isStep_467 : decode cL_isStep 467 = .ok (.aload_n 0, 1) := by decide +kernel
theorem dL_isStep_468 : decode cL_isStep 468 = .ok (.iload 5, 2) := by decide +kernel
theorem dL_isStep_470 : decode cL_isStep 470 = .ok (.iconst 5, 1) := by decide +kernel
theorem dL_isStep_471 : decode cL_isStep 471 = .ok (.invokevirtual 15, 3) := by decide +kernel
theorem dL_isStep_474 : decode cL_isStep 474 = .ok (.iconst 1, 1) := by decide +kernel
theorem dL_isStep_475 : decode cL_isStep 475 = .ok (.iload 7, 2) := by decide +kernel
theorem dL_isStep_477 : decode cL_isStep 477 = .ok (.isub, 1) := by decide +kernel
theorem dL_isStep_478 : decode cL_isStep 478 = .ok (.if_icmp .ne 7, 3) := by decide +kernel
theorem dL_isStep_481 : decode cL_isStep 481 = .ok (.iconst 1, 1) := by decide +kernel
theorem dL_isStep_482 : decode cL_isStep 482 = .ok (.goto 4, 3) := by decide +kernel
theorem dL_isStep_485 : decode cL_isStep 485 = .ok (.iconst 0, 1) := by decide +kernel
theorem dL_isStep_486 : decode cL_isStep 486 = .ok (.ireturn, 1) := by decide +kernel
theorem dL_isStep_487 : decode cL_isStep 487 = .ok (.aload_n 0, 1) := by decide +kernel
theorem dL_isStep_488 : decode cL_isStep 488 = .ok (.iload 5, 2) := by decide +kernel
theorem dL_isStep_490 : decode cL_isStep 490 = .ok (.iconst 4, 1) := by decide +kernel
theorem dL_isStep_491 : decode cL_isStep 491 = .ok (.invokevirtual 15, 3) := by decide +kernel
theorem dL_isStep_494 : decode cL_isStep 494 = .ok (.ifCond .ne 17, 3) := by decide +kernel
theorem dL_isStep_497 : decode cL_isStep 497 = .ok (.aload_n 0, 1) := by decide +kernel
theorem dL_isStep_498 : decode cL_isStep 498 = .ok (.iload 5, 2) := by decide +kernel
theorem dL_isStep_500 : decode cL_isStep 500 = .ok (.iconst 3, 1) := by decide +kernel
theorem dL_isStep_501 : decode cL_isStep 501 = .ok (.invokevirtual 15, 3) := by decide +kernel
theorem dL_isStep_504 : decode cL_isStep 504 = .ok (.ifCond .le 7, 3) := by decide +kernel
theorem dL_isStep_507 : decode cL_isStep 507 = .ok (.iconst 1, 1) := by decide +kernel
theorem dL_isStep_508 : decode cL_isStep 508 = .ok (.goto 4, 3) := by decide +kernel
theorem dL_isStep_511 : decode cL_isStep 511 = .ok (.iconst 0, 1) := by decide +kernel
theorem dL_isStep_512 : decode cL_isStep 512 = .ok (.istore 7, 2) := by decide +kernel
theorem dL_isStep_514 : decode cL_isStep 514 = .ok (.aload_n 0, 1) := by decide +kernel
theorem dL_isStep_515 : decode cL_isStep 515 = .ok (.iload 5, 2) := by decide +kernel
theorem dL_isStep_517 : decode cL_isStep 517 = .ok (.bipush 6, 2) := by decide +kernel
theorem dL_isStep_519 : decode cL_isStep 519 = .ok (.invokevirtual 15, 3) := by decide +kernel
theorem dL_isStep_522 : decode cL_isStep 522 = .ok (.istore 8, 2) := by decide +kernel
theorem dL_isStep_524 : decode cL_isStep 524 = .ok (.aload_n 0, 1) := by decide +kernel
theorem dL_isStep_525 : decode cL_isStep 525 = .ok (.iconst 4, 1) := by decide +kernel
theorem dL_isStep_526 : decode cL_isStep 526 = .ok (.invokestatic 57, 3) := by decide +kernel
theorem dL_isStep_529 : decode cL_isStep 529 = .ok (.istore 9, 2) := by decide +kernel
theorem dL_isStep_531 : decode cL_isStep 531 = .ok (.aload_n 0, 1) := by decide +kernel
theorem dL_isStep_532 : decode cL_isStep 532 = .ok (.iload 5, 2) := by decide +kernel
theorem dL_isStep_534 : decode cL_isStep 534 = .ok (.invokevirtual 61, 3) := by decide +kernel
theorem dL_isStep_537 : decode cL_isStep 537 = .ok (.istore 10, 2) := by decide +kernel
theorem dL_isStep_539 : decode cL_isStep 539 = .ok (.iload 10, 2) := by decide +kernel
theorem dL_isStep_541 : decode cL_isStep 541 = .ok (.aload_n 1, 1) := by decide +kernel
theorem dL_isStep_542 : decode cL_isStep 542 = .ok (.iload 5, 2) := by decide +kernel
theorem dL_isStep_544 : decode cL_isStep 544 = .ok (.invokevirtual 61, 3) := by decide +kernel
theorem dL_isStep_547 : decode cL_isStep 547 = .ok (.if_icmp .ne 74, 3) := by decide +kernel
theorem dL_isStep_550 : decode cL_isStep 550 = .ok (.iload 10, 2) := by decide +kernel
theorem dL_isStep_552 : decode cL_isStep 552 = .ok (.iload 7, 2) := by decide +kernel
theorem dL_isStep_554 : decode cL_isStep 554 = .ok (.ifCond .eq 8, 3) := by decide +kernel
theorem dL_isStep_557 : decode cL_isStep 557 = .ok (.iload 9, 2) := by decide +kernel
theorem dL_isStep_559 : decode cL_isStep 559 = .ok (.goto 5, 3) := by decide +kernel
theorem dL_isStep_562 : decode cL_isStep 562 = .ok (.bipush (-5), 2) := by decide +kernel
theorem dL_isStep_564 : decode cL_isStep 564 = .ok (.if_icmp .ne 57, 3) := by decide +kernel
theorem dL_isStep_567 : decode cL_isStep 567 = .ok (.aload_n 0, 1) := by decide +kernel
theorem dL_isStep_568 : decode cL_isStep 568 = .ok (.iload 5, 2) := by decide +kernel
theorem dL_isStep_570 : decode cL_isStep 570 = .ok (.bipush 6, 2) := by decide +kernel
theorem dL_isStep_572 : decode cL_isStep 572 = .ok (.invokevirtual 15, 3) := by decide +kernel
theorem dL_isStep_575 : decode cL_isStep 575 = .ok (.iload 8, 2) := by decide +kernel
theorem dL_isStep_577 : decode cL_isStep 577 = .ok (.iload 7, 2) := by decide +kernel
theorem dL_isStep_579 : decode cL_isStep 579 = .ok (.ifCond .eq 7, 3) := by decide +kernel
theorem dL_isStep_582 : decode cL_isStep 582 = .ok (.iconst 1, 1) := by decide +kernel
theorem dL_isStep_583 : decode cL_isStep 583 = .ok (.goto 4, 3) := by decide +kernel
theorem dL_isStep_586 : decode cL_isStep 586 = .ok (.iconst 0, 1) := by decide +kernel
theorem dL_isStep_587 : decode cL_isStep 587 = .ok (.iadd, 1) := by decide +kernel
theorem dL_isStep_588 : decode cL_isStep 588 = .ok (.if_icmp .ne 33, 3) := by decide +kernel
theorem dL_isStep_591 : decode cL_isStep 591 = .ok (.iload 7, 2) := by decide +kernel
theorem dL_isStep_593 : decode cL_isStep 593 = .ok (.ifCond .eq 24, 3) := by decide +kernel
theorem dL_isStep_596 : decode cL_isStep 596 = .ok (.aload_n 0, 1) := by decide +kernel
theorem dL_isStep_597 : decode cL_isStep 597 = .ok (.iload 9, 2) := by decide +kernel
theorem dL_isStep_599 : decode cL_isStep 599 = .ok (.invokevirtual 64, 3) := by decide +kernel
theorem dL_isStep_602 : decode cL_isStep 602 = .ok (.iload 5, 2) := by decide +kernel
theorem dL_isStep_604 : decode cL_isStep 604 = .ok (.if_icmp .ne 17, 3) := by decide +kernel
theorem dL_isStep_607 : decode cL_isStep 607 = .ok (.aload_n 0, 1) := by decide +kernel
theorem dL_isStep_608 : decode cL_isStep 608 = .ok (.iload 5, 2) := by decide +kernel
theorem dL_isStep_610 : decode cL_isStep 610 = .ok (.invokevirtual 67, 3) := by decide +kernel
theorem dL_isStep_613 : decode cL_isStep 613 = .ok (.iconst 1, 1) := by decide +kernel
theorem dL_isStep_614 : decode cL_isStep 614 = .ok (.if_icmp .ne 7, 3) := by decide +kernel
theorem dL_isStep_617 : decode cL_isStep 617 = .ok (.iconst 1, 1) := by decide +kernel
theorem dL_isStep_618 : decode cL_isStep 618 = .ok (.goto 4, 3) := by decide +kernel
theorem dL_isStep_621 : decode cL_isStep 621 = .ok (.iconst 0, 1) := by decide +kernel
theorem dL_isStep_622 : decode cL_isStep 622 = .ok (.ireturn, 1) := by decide +kernel
theorem dL_isStep_623 : decode cL_isStep 623 = .ok (.iconst 1, 1) := by decide +kernel
theorem dL_isStep_624 : decode cL_isStep 624 = .ok (.iload_n 3, 1) := by decide +kernel
theorem dL_isStep_625 : decode cL_isStep 625 = .ok (.iload 4, 2) := by decide +kernel
theorem dL_isStep_627 : decode cL_isStep 627 = .ok (.iconst 3, 1) := by decide +kernel
theorem dL_isStep_628 : decode cL_isStep 628 = .ok (.ishr, 1) := by decide +kernel
theorem dL_isStep_629 : decode cL_isStep 629 = .ok (.iconst 4, 1) := by decide +kernel
theorem dL_isStep_630 : decode cL_isStep 630 = .ok (.invokestatic 19, 3) := by decide +kernel
theorem dL_isStep_633 : decode cL_isStep 633 = .ok (.ifCond .ne 8, 3) := by decide +kernel
theorem dL_isStep_636 : decode cL_isStep 636 = .ok (.bipush 99, 2) := by decide +kernel
theorem dL_isStep_638 : decode cL_isStep 638 = .ok (.goto 4, 3) := by decide +kernel
theorem dL_isStep_641 : decode cL_isStep 641 = .ok (.iconst 4, 1) := by decide +kernel
theorem dL_isStep_642 : decode cL_isStep 642 = .ok (.invokestatic 19, 3) := by decide +kernel
theorem dL_isStep_645 : decode cL_isStep 645 = .ok (.iadd, 1) := by decide +kernel
theorem dL_isStep_646 : decode cL_isStep 646 = .ok (.istore 7, 2) := by decide +kernel
theorem dL_isStep_648 : decode cL_isStep 648 = .ok (.aload_n 0, 1) := by decide +kernel
theorem dL_isStep_649 : decode cL_isStep 649 = .ok (.iconst 0, 1) := by decide +kernel
theorem dL_isStep_650 : decode cL_isStep 650 = .ok (.invokevirtual 24, 3) := by decide +kernel
theorem dL_isStep_653 : decode cL_isStep 653 = .ok (.istore 8, 2) := by decide +kernel
theorem dL_isStep_655 : decode cL_isStep 655 = .ok (.aload_n 0, 1) := by decide +kernel
theorem dL_isStep_656 : decode cL_isStep 656 = .ok (.iconst 3, 1) := by decide +kernel
theorem dL_isStep_657 : decode cL_isStep 657 = .ok (.invokevirtual 24, 3) := by decide +kernel
theorem dL_isStep_660 : decode cL_isStep 660 = .ok (.istore 9, 2) := by decide +kernel
theorem dL_isStep_662 : decode cL_isStep 662 = .ok (.aload_n 0, 1) := by decide +kernel
theorem dL_isStep_663 : decode cL_isStep 663 = .ok (.iload 7, 2) := by decide +kernel
theorem dL_isStep_665 : decode cL_isStep 665 = .ok (.invokevirtual 70, 3) := by decide +kernel
theorem dL_isStep_668 : decode cL_isStep 668 = .ok (.istore 10, 2) := by decide +kernel
theorem dL_isStep_670 : decode cL_isStep 670 = .ok (.iconst 0, 1) := by decide +kernel
theorem dL_isStep_671 : decode cL_isStep 671 = .ok (.istore 11, 2) := by decide +kernel
theorem dL_isStep_673 : decode cL_isStep 673 = .ok (.iconst 0, 1) := by decide +kernel
theorem dL_isStep_674 : decode cL_isStep 674 = .ok (.istore 12, 2) := by decide +kernel
theorem dL_isStep_676 : decode cL_isStep 676 = .ok (.iload 12, 2) := by decide +kernel
theorem dL_isStep_678 : decode cL_isStep 678 = .ok (.iload 7, 2) := by decide +kernel
theorem dL_isStep_680 : decode cL_isStep 680 = .ok (.if_icmp .ge 23, 3) := by decide +kernel
theorem dL_isStep_683 : decode cL_isStep 683 = .ok (.aload_n 1, 1) := by decide +kernel
theorem dL_isStep_684 : decode cL_isStep 684 = .ok (.iconst 1, 1) := by decide +kernel
theorem dL_isStep_685 : decode cL_isStep 685 = .ok (.invokevirtual 70, 3) := by decide +kernel
theorem dL_isStep_688 : decode cL_isStep 688 = .ok (.istore 13, 2) := by decide +kernel
theorem dL_isStep_690 : decode cL_isStep 690 = .ok (.iload 11, 2) := by decide +kernel
theorem dL_isStep_692 : decode cL_isStep 692 = .ok (.iload 13, 2) := by decide +kernel
theorem dL_isStep_694 : decode cL_isStep 694 = .ok (.iadd, 1) := by decide +kernel
theorem dL_isStep_695 : decode cL_isStep 695 = .ok (.istore 11, 2) := by decide +kernel
theorem dL_isStep_697 : decode cL_isStep 697 = .ok (.iinc 12 1, 3) := by decide +kernel
theorem dL_isStep_700 : decode cL_isStep 700 = .ok (.goto (-24), 3) := by decide +kernel
theorem dL_isStep_703 : decode cL_isStep 703 = .ok (.iload 10, 2) := by decide +kernel
theorem dL_isStep_705 : decode cL_isStep 705 = .ok (.iload 11, 2) := by decide +kernel
theorem dL_isStep_707 : decode cL_isStep 707 = .ok (.if_icmp .ne 47, 3) := by decide +kernel
theorem dL_isStep_710 : decode cL_isStep 710 = .ok (.aload_n 0, 1) := by decide +kernel
theorem dL_isStep_711 : decode cL_isStep 711 = .ok (.iconst 0, 1) := by decide +kernel
theorem dL_isStep_712 : decode cL_isStep 712 = .ok (.invokevirtual 24, 3) := by decide +kernel
theorem dL_isStep_715 : decode cL_isStep 715 = .ok (.iload 8, 2) := by decide +kernel
theorem dL_isStep_717 : decode cL_isStep 717 = .ok (.iload 7, 2) := by decide +kernel
theorem dL_isStep_719 : decode cL_isStep 719 = .ok (.iadd, 1) := by decide +kernel
theorem dL_isStep_720 : decode cL_isStep 720 = .ok (.if_icmp .ne 34, 3) := by decide +kernel
theorem dL_isStep_723 : decode cL_isStep 723 = .ok (.aload_n 0, 1) := by decide +kernel
theorem dL_isStep_724 : decode cL_isStep 724 = .ok (.iconst 3, 1) := by decide +kernel
theorem dL_isStep_725 : decode cL_isStep 725 = .ok (.invokevirtual 24, 3) := by decide +kernel
theorem dL_isStep_728 : decode cL_isStep 728 = .ok (.iload 9, 2) := by decide +kernel
theorem dL_isStep_730 : decode cL_isStep 730 = .ok (.iload 10, 2) := by decide +kernel
theorem dL_isStep_732 : decode cL_isStep 732 = .ok (.iadd, 1) := by decide +kernel
theorem dL_isStep_733 : decode cL_isStep 733 = .ok (.if_icmp .ne 21, 3) := by decide +kernel
theorem dL_isStep_736 : decode cL_isStep 736 = .ok (.iload 10, 2) := by decide +kernel
theorem dL_isStep_738 : decode cL_isStep 738 = .ok (.iload 7, 2) := by decide +kernel
theorem dL_isStep_740 : decode cL_isStep 740 = .ok (.aload_n 0, 1) := by decide +kernel
theorem dL_isStep_741 : decode cL_isStep 741 = .ok (.bipush 8, 2) := by decide +kernel
theorem dL_isStep_743 : decode cL_isStep 743 = .ok (.invokevirtual 24, 3) := by decide +kernel
theorem dL_isStep_746 : decode cL_isStep 746 = .ok (.imul, 1) := by decide +kernel
theorem dL_isStep_747 : decode cL_isStep 747 = .ok (.if_icmp .gt 7, 3) := by decide +kernel
theorem dL_isStep_750 : decode cL_isStep 750 = .ok (.iconst 1, 1) := by decide +kernel
theorem dL_isStep_751 : decode cL_isStep 751 = .ok (.goto 4, 3) := by decide +kernel
theorem dL_isStep_754 : decode cL_isStep 754 = .ok (.iconst 0, 1) := by decide +kernel
theorem dL_isStep_755 : decode cL_isStep 755 = .ok (.ireturn, 1) := by decide +kernel
theorem dL_isStep_756 : decode cL_isStep 756 = .ok (.iconst 1, 1) := by decide +kernel
theorem dL_isStep_757 : decode cL_isStep 757 = .ok (.iload_n 3, 1) := by decide +kernel
theorem dL_isStep_758 : decode cL_isStep 758 = .ok (.bipush 99, 2) := by decide +kernel
theorem dL_isStep_760 : decode cL_isStep 760 = .ok (.invokestatic 19, 3) := by decide +kernel
theorem dL_isStep_763 : decode cL_isStep 763 = .ok (.iadd, 1) := by decide +kernel
theorem dL_isStep_764 : decode cL_isStep 764 = .ok (.istore 7, 2) := by decide +kernel
theorem dL_isStep_766 : decode cL_isStep 766 = .ok (.aload_n 0, 1) := by decide +kernel
theorem dL_isStep_767 : decode cL_isStep 767 = .ok (.iload 7, 2) := by decide +kernel
theorem dL_isStep_769 : decode cL_isStep 769 = .ok (.iconst 0, 1) := by decide +kernel
theorem dL_isStep_770 : decode cL_isStep 770 = .ok (.invokevirtual 73, 3) := by decide +kernel
theorem dL_isStep_773 : decode cL_isStep 773 = .ok (.istore 8, 2) := by decide +kernel
theorem dL_isStep_775 : decode cL_isStep 775 = .ok (.aload_n 0, 1) := by decide +kernel
theorem dL_isStep_776 : decode cL_isStep 776 = .ok (.iload 7, 2) := by decide +kernel
theorem dL_isStep_778 : decode cL_isStep 778 = .ok (.iconst 1, 1) := by decide +kernel
theorem dL_isStep_779 : decode cL_isStep 779 = .ok (.invokevirtual 73, 3) := by decide +kernel
theorem dL_isStep_782 : decode cL_isStep 782 = .ok (.aload_n 0, 1) := by decide +kernel
theorem dL_isStep_783 : decode cL_isStep 783 = .ok (.iconst 5, 1) := by decide +kernel
theorem dL_isStep_784 : decode cL_isStep 784 = .ok (.invokevirtual 24, 3) := by decide +kernel
theorem dL_isStep_787 : decode cL_isStep 787 = .ok (.iadd, 1) := by decide +kernel
theorem dL_isStep_788 : decode cL_isStep 788 = .ok (.istore 9, 2) := by decide +kernel
theorem dL_isStep_790 : decode cL_isStep 790 = .ok (.aload_n 0, 1) := by decide +kernel
theorem dL_isStep_791 : decode cL_isStep 791 = .ok (.iload 7, 2) := by decide +kernel
theorem dL_isStep_793 : decode cL_isStep 793 = .ok (.invokevirtual 70, 3) := by decide +kernel
theorem dL_isStep_796 : decode cL_isStep 796 = .ok (.iload 8, 2) := by decide +kernel
theorem dL_isStep_798 : decode cL_isStep 798 = .ok (.if_icmp .ne 51, 3) := by decide +kernel
theorem dL_isStep_801 : decode cL_isStep 801 = .ok (.aload_n 1, 1) := by decide +kernel
theorem dL_isStep_802 : decode cL_isStep 802 = .ok (.invokevirtual 35, 3) := by decide +kernel
theorem dL_isStep_805 : decode cL_isStep 805 = .ok (.ifCond .lt 44, 3) := by decide +kernel
theorem dL_isStep_808 : decode cL_isStep 808 = .ok (.aload_n 1, 1) := by decide +kernel
theorem dL_isStep_809 : decode cL_isStep 809 = .ok (.ldc2_w 76, 3) := by decide +kernel
theorem dL_isStep_812 : decode cL_isStep 812 = .ok (.invokevirtual 9, 3) := by decide +kernel
theorem dL_isStep_815 : decode cL_isStep 815 = .ok (.ifCond .le 34, 3) := by decide +kernel
theorem dL_isStep_818 : decode cL_isStep 818 = .ok (.aload_n 1, 1) := by decide +kernel
theorem dL_isStep_819 : decode cL_isStep 819 = .ok (.iload 7, 2) := by decide +kernel
theorem dL_isStep_821 : decode cL_isStep 821 = .ok (.invokestatic 43, 3) := by decide +kernel
theorem dL_isStep_824 : decode cL_isStep 824 = .ok (.ifCond .eq 25, 3) := by decide +kernel
theorem dL_isStep_827 : decode cL_isStep 827 = .ok (.aload_n 1, 1) := by decide +kernel
theorem dL_isStep_828 : decode cL_isStep 828 = .ok (.invokevirtual 49, 3) := by decide +kernel
theorem dL_isStep_831 : decode cL_isStep 831 = .ok (.iconst 1, 1) := by decide +kernel
theorem dL_isStep_832 : decode cL_isStep 832 = .ok (.if_icmp .ne 17, 3) := by decide +kernel
theorem dL_isStep_835 : decode cL_isStep 835 = .ok (.aload_n 0, 1) := by decide +kernel
theorem dL_isStep_836 : decode cL_isStep 836 = .ok (.iconst 5, 1) := by decide +kernel
theorem dL_isStep_837 : decode cL_isStep 837 = .ok (.invokevirtual 24, 3) := by decide +kernel
theorem dL_isStep_840 : decode cL_isStep 840 = .ok (.iload 9, 2) := by decide +kernel
theorem dL_isStep_842 : decode cL_isStep 842 = .ok (.if_icmp .ne 7, 3) := by decide +kernel
theorem dL_isStep_845 : decode cL_isStep 845 = .ok (.iconst 1, 1) := by decide +kernel
theorem dL_isStep_846 : decode cL_isStep 846 = .ok (.goto 4, 3) := by decide +kernel
theorem dL_isStep_849 : decode cL_isStep 849 = .ok (.iconst 0, 1) := by decide +kernel
theorem dL_isStep_850 : decode cL_isStep 850 = .ok (.ireturn, 1) := by decide +kernel
theorem dL_isStep_851 : decode cL_isStep 851 = .ok (.iload_n 3, 1) := by decide +kernel
theorem dL_isStep_852 : decode cL_isStep 852 = .ok (.iconst 2, 1) := by decide +kernel
theorem dL_isStep_853 : decode cL_isStep 853 = .ok (.invokestatic 19, 3) := by decide +kernel
theorem dL_isStep_856 : decode cL_isStep 856 = .ok (.ifCond .ne 34, 3) := by decide +kernel
theorem dL_isStep_859 : decode cL_isStep 859 = .ok (.aload_n 0, 1) := by decide +kernel
theorem dL_isStep_860 : decode cL_isStep 860 = .ok (.iload 4, 2) := by decide +kernel
theorem dL_isStep_862 : decode cL_isStep 862 = .ok (.iconst 2, 1) := by decide +kernel
theorem dL_isStep_863 : decode cL_isStep 863 = .ok (.invokestatic 19, 3) := by decide +kernel
theorem dL_isStep_866 : decode cL_isStep 866 = .ok (.invokevirtual 78, 3) := by decide +kernel
theorem dL_isStep_869 : decode cL_isStep 869 = .ok (.aload_n 1, 1) := by decide +kernel
theorem dL_isStep_870 : decode cL_isStep 870 = .ok (.iload 4, 2) := by decide +kernel
theorem dL_isStep_872 : decode cL_isStep 872 = .ok (.iconst 2, 1) := by decide +kernel
theorem dL_isStep_873 : decode cL_isStep 873 = .ok (.invokestatic 19, 3) := by decide +kernel
theorem dL_isStep_876 : decode cL_isStep 876 = .ok (.invokevirtual 78, 3) := by decide +kernel
theorem dL_isStep_879 : decode cL_isStep 879 = .ok (.if_icmp .ne 7, 3) := by decide +kernel
theorem dL_isStep_882 : decode cL_isStep 882 = .ok (.iconst 1, 1) := by decide +kernel
theorem dL_isStep_883 : decode cL_isStep 883 = .ok (.goto 35, 3) := by decide +kernel
theorem dL_isStep_886 : decode cL_isStep 886 = .ok (.iconst 0, 1) := by decide +kernel
theorem dL_isStep_887 : decode cL_isStep 887 = .ok (.goto 31, 3) := by decide +kernel
theorem dL_isStep_890 : decode cL_isStep 890 = .ok (.aload_n 0, 1) := by decide +kernel
theorem dL_isStep_891 : decode cL_isStep 891 = .ok (.iload 4, 2) := by decide +kernel
theorem dL_isStep_893 : decode cL_isStep 893 = .ok (.iconst 2, 1) := by decide +kernel
theorem dL_isStep_894 : decode cL_isStep 894 = .ok (.invokestatic 19, 3) := by decide +kernel
theorem dL_isStep_897 : decode cL_isStep 897 = .ok (.invokevirtual 81, 3) := by decide +kernel
theorem dL_isStep_900 : decode cL_isStep 900 = .ok (.aload_n 1, 1) := by decide +kernel
theorem dL_isStep_901 : decode cL_isStep 901 = .ok (.iload 4, 2) := by decide +kernel
theorem dL_isStep_903 : decode cL_isStep 903 = .ok (.iconst 2, 1) := by decide +kernel
theorem dL_isStep_904 : decode cL_isStep 904 = .ok (.invokestatic 19, 3) := by decide +kernel
theorem dL_isStep_907 : decode cL_isStep 907 = .ok (.invokevirtual 81, 3) := by decide +kernel
theorem dL_isStep_910 : decode cL_isStep 910 = .ok (.if_icmp .ne 7, 3) := by decide +kernel
theorem dL_isStep_913 : decode cL_isStep 913 = .ok (.iconst 1, 1) := by decide +kernel
theorem dL_isStep_914 : decode cL_isStep 914 = .ok (.goto 4, 3) := by decide +kernel
theorem dL_isStep_917 : decode cL_isStep 917 = .ok (.iconst 0, 1) := by decide +kernel
theorem dL_isStep_918 : decode cL_isStep 918 = .ok (.ireturn, 1) := by decide +kernel
theorem dL_isStep_919 : decode cL_isStep 919 = .ok (.iload_n 3, 1) := by decide +kernel
theorem dL_isStep_920 : decode cL_isStep 920 = .ok (.bipush 100, 2) := by decide +kernel
theorem dL_isStep_922 : decode cL_isStep 922 = .ok (.invokestatic 19, 3) := by decide +kernel
theorem dL_isStep_925 : decode cL_isStep 925 = .ok (.istore 7, 2) := by decide +kernel
theorem dL_isStep_927 : decode cL_isStep 927 = .ok (.iload 4, 2) := by decide +kernel
theorem dL_isStep_929 : decode cL_isStep 929 = .ok (.bipush 6, 2) := by decide +kernel
theorem dL_isStep_931 : decode cL_isStep 931 = .ok (.invokestatic 19, 3) := by decide +kernel
theorem dL_isStep_934 : decode cL_isStep 934 = .ok (.istore 8, 2) := by decide +kernel
theorem dL_isStep_936 : decode cL_isStep 936 = .ok (.aload_n 0, 1) := by decide +kernel
theorem dL_isStep_937 : decode cL_isStep 937 = .ok (.bipush 7, 2) := by decide +kernel
theorem dL_isStep_939 : decode cL_isStep 939 = .ok (.invokevirtual 24, 3) := by decide +kernel
theorem dL_isStep_942 : decode cL_isStep 942 = .ok (.aload_n 0, 1) := by decide +kernel
theorem dL_isStep_943 : decode cL_isStep 943 = .ok (.iload 7, 2) := by decide +kernel
theorem dL_isStep_945 : decode cL_isStep 945 = .ok (.iconst 3, 1) := by decide +kernel
theorem dL_isStep_946 : decode cL_isStep 946 = .ok (.irem, 1) := by decide +kernel
theorem dL_isStep_947 : decode cL_isStep 947 = .ok (.iconst 3, 1) := by decide +kernel
theorem dL_isStep_948 : decode cL_isStep 948 = .ok (.invokevirtual 15, 3) := by decide +kernel
theorem dL_isStep_951 : decode cL_isStep 951 = .ok (.isub, 1) := by decide +kernel
theorem dL_isStep_952 : decode cL_isStep 952 = .ok (.istore 9, 2) := by decide +kernel
theorem dL_isStep_954 : decode cL_isStep 954 = .ok (.aload_n 0, 1) := by decide +kernel
theorem dL_isStep_955 : decode cL_isStep 955 = .ok (.iconst 4, 1) := by decide +kernel
theorem dL_isStep_956 : decode cL_isStep 956 = .ok (.invokevirtual 24, 3) := by decide +kernel
theorem dL_isStep_959 : decode cL_isStep 959 = .ok (.istore 10, 2) := by decide +kernel
theorem dL_isStep_961 : decode cL_isStep 961 = .ok (.iconst 1, 1) := by decide +kernel
theorem dL_isStep_962 : decode cL_isStep 962 = .ok (.istore 11, 2) := by decide +kernel
theorem dL_isStep_964 : decode cL_isStep 964 = .ok (.iconst 0, 1) := by decide +kernel
theorem dL_isStep_965 : decode cL_isStep 965 = .ok (.istore 12, 2) := by decide +kernel
theorem dL_isStep_967 : decode cL_isStep 967 = .ok (.iload 12, 2) := by decide +kernel
theorem dL_isStep_969 : decode cL_isStep 969 = .ok (.iload 8, 2) := by decide +kernel
theorem dL_isStep_971 : decode cL_isStep 971 = .ok (.if_icmp .ge 51, 3) := by decide +kernel
theorem dL_isStep_974 : decode cL_isStep 974 = .ok (.iload 11, 2) := by decide +kernel
theorem dL_isStep_976 : decode cL_isStep 976 = .ok (.ifCond .eq 37, 3) := by decide +kernel
theorem dL_isStep_979 : decode cL_isStep 979 = .ok (.aload_n 0, 1) := by decide +kernel
theorem dL_isStep_980 : decode cL_isStep 980 = .ok (.iload 7, 2) := by decide +kernel
theorem dL_isStep_982 : decode cL_isStep 982 = .ok (.invokevirtual 84, 3) := by decide +kernel
theorem dL_isStep_985 : decode cL_isStep 985 = .ok (.iload 6, 2) := by decide +kernel
theorem dL_isStep_987 : decode cL_isStep 987 = .ok (.iload 12, 2) := by decide +kernel
theorem dL_isStep_989 : decode cL_isStep 989 = .ok (.iadd, 1) := by decide +kernel
theorem dL_isStep_990 : decode cL_isStep 990 = .ok (.sipush 400, 3) := by decide +kernel
theorem dL_isStep_993 : decode cL_isStep 993 = .ok (.if_icmp .ge 11, 3) := by decide +kernel
theorem dL_isStep_996 : decode cL_isStep 996 = .ok (.iload 6, 2) := by decide +kernel
theorem dL_isStep_998 : decode cL_isStep 998 = .ok (.iload 12, 2) := by decide +kernel
theorem dL_isStep_1000 : decode cL_isStep 1000 = .ok (.iadd, 1) := by decide +kernel
theorem dL_isStep_1001 : decode cL_isStep 1001 = .ok (.goto 5, 3) := by decide +kernel
theorem dL_isStep_1004 : decode cL_isStep 1004 = .ok (.bipush (-4), 2) := by decide +kernel
theorem dL_isStep_1006 : decode cL_isStep 1006 = .ok (.if_icmp .ne 7, 3) := by decide +kernel
theorem dL_isStep_1009 : decode cL_isStep 1009 = .ok (.iconst 1, 1) := by decide +kernel
theorem dL_isStep_1010 : decode cL_isStep 1010 = .ok (.goto 4, 3) := by decide +kernel
theorem dL_isStep_1013 : decode cL_isStep 1013 = .ok (.iconst 0, 1) := by decide +kernel
theorem dL_isStep_1014 : decode cL_isStep 1014 = .ok (.istore 11, 2) := by decide +kernel
theorem dL_isStep_1016 : decode cL_isStep 1016 = .ok (.iinc 12 1, 3) := by decide +kernel
theorem dL_isStep_1019 : decode cL_isStep 1019 = .ok (.goto (-52), 3) := by decide +kernel
theorem dL_isStep_1022 : decode cL_isStep 1022 = .ok (.iload 6, 2) := by decide +kernel
theorem dL_isStep_1024 : decode cL_isStep 1024 = .ok (.iload 8, 2) := by decide +kernel
theorem dL_isStep_1026 : decode cL_isStep 1026 = .ok (.iadd, 1) := by decide +kernel
theorem dL_isStep_1027 : decode cL_isStep 1027 = .ok (.sipush 400, 3) := by decide +kernel
theorem dL_isStep_1030 : decode cL_isStep 1030 = .ok (.if_icmp .le 12, 3) := by decide +kernel
theorem dL_isStep_1033 : decode cL_isStep 1033 = .ok (.sipush 400, 3) := by decide +kernel
theorem dL_isStep_1036 : decode cL_isStep 1036 = .ok (.iload 6, 2) := by decide +kernel
theorem dL_isStep_1038 : decode cL_isStep 1038 = .ok (.isub, 1) := by decide +kernel
theorem dL_isStep_1039 : decode cL_isStep 1039 = .ok (.goto 5, 3) := by decide +kernel
theorem dL_isStep_1042 : decode cL_isStep 1042 = .ok (.iload 8, 2) := by decide +kernel
theorem dL_isStep_1044 : decode cL_isStep 1044 = .ok (.istore 12, 2) := by decide +kernel
theorem dL_isStep_1046 : decode cL_isStep 1046 = .ok (.iload 9, 2) := by decide +kernel
theorem dL_isStep_1048 : decode cL_isStep 1048 = .ok (.ifCond .ge 7, 3) := by decide +kernel
theorem dL_isStep_1051 : decode cL_isStep 1051 = .ok (.iconst 0, 1) := by decide +kernel
theorem dL_isStep_1052 : decode cL_isStep 1052 = .ok (.goto 5, 3) := by decide +kernel
theorem dL_isStep_1055 : decode cL_isStep 1055 = .ok (.iload 9, 2) := by decide +kernel
theorem dL_isStep_1057 : decode cL_isStep 1057 = .ok (.istore 13, 2) := by decide +kernel
theorem dL_isStep_1059 : decode cL_isStep 1059 = .ok (.iload 11, 2) := by decide +kernel
theorem dL_isStep_1061 : decode cL_isStep 1061 = .ok (.ifCond .eq 88, 3) := by decide +kernel
theorem dL_isStep_1064 : decode cL_isStep 1064 = .ok (.aload_n 1, 1) := by decide +kernel
theorem dL_isStep_1065 : decode cL_isStep 1065 = .ok (.invokevirtual 35, 3) := by decide +kernel
theorem dL_isStep_1068 : decode cL_isStep 1068 = .ok (.ifCond .lt 81, 3) := by decide +kernel
theorem dL_isStep_1071 : decode cL_isStep 1071 = .ok (.aload_n 1, 1) := by decide +kernel
theorem dL_isStep_1072 : decode cL_isStep 1072 = .ok (.ldc2_w 87, 3) := by decide +kernel
theorem dL_isStep_1075 : decode cL_isStep 1075 = .ok (.invokevirtual 9, 3) := by decide +kernel
theorem dL_isStep_1078 : decode cL_isStep 1078 = .ok (.ifCond .le 71, 3) := by decide +kernel
theorem dL_isStep_1081 : decode cL_isStep 1081 = .ok (.aload_n 1, 1) := by decide +kernel
theorem dL_isStep_1082 : decode cL_isStep 1082 = .ok (.iload 7, 2) := by decide +kernel
theorem dL_isStep_1084 : decode cL_isStep 1084 = .ok (.invokestatic 43, 3) := by decide +kernel
theorem dL_isStep_1087 : decode cL_isStep 1087 = .ok (.ifCond .eq 62, 3) := by decide +kernel
theorem dL_isStep_1090 : decode cL_isStep 1090 = .ok (.aload_n 1, 1) := by decide +kernel
theorem dL_isStep_1091 : decode cL_isStep 1091 = .ok (.ldc2_w 89, 3) := by decide +kernel
theorem dL_isStep_1094 : decode cL_isStep 1094 = .ok (.invokevirtual 9, 3) := by decide +kernel
theorem dL_isStep_1097 : decode cL_isStep 1097 = .ok (.ifCond .le 52, 3) := by decide +kernel
theorem dL_isStep_1100 : decode cL_isStep 1100 = .ok (.aload_n 1, 1) := by decide +kernel
theorem dL_isStep_1101 : decode cL_isStep 1101 = .ok (.iload 8, 2) := by decide +kernel
theorem dL_isStep_1103 : decode cL_isStep 1103 = .ok (.invokestatic 43, 3) := by decide +kernel
theorem dL_isStep_1106 : decode cL_isStep 1106 = .ok (.ifCond .eq 43, 3) := by decide +kernel
theorem dL_isStep_1109 : decode cL_isStep 1109 = .ok (.aload_n 1, 1) := by decide +kernel
theorem dL_isStep_1110 : decode cL_isStep 1110 = .ok (.invokevirtual 49, 3) := by decide +kernel
theorem dL_isStep_1113 : decode cL_isStep 1113 = .ok (.iload 12, 2) := by decide +kernel
theorem dL_isStep_1115 : decode cL_isStep 1115 = .ok (.if_icmp .ne 34, 3) := by decide +kernel
theorem dL_isStep_1118 : decode cL_isStep 1118 = .ok (.aload_n 0, 1) := by decide +kernel
theorem dL_isStep_1119 : decode cL_isStep 1119 = .ok (.iconst 4, 1) := by decide +kernel
theorem dL_isStep_1120 : decode cL_isStep 1120 = .ok (.invokevirtual 24, 3) := by decide +kernel
theorem dL_isStep_1123 : decode cL_isStep 1123 = .ok (.iload 10, 2) := by decide +kernel
theorem dL_isStep_1125 : decode cL_isStep 1125 = .ok (.iload 12, 2) := by decide +kernel
theorem dL_isStep_1127 : decode cL_isStep 1127 = .ok (.iload 13, 2) := by decide +kernel
theorem dL_isStep_1129 : decode cL_isStep 1129 = .ok (.if_icmp .le 11, 3) := by decide +kernel
theorem dL_isStep_1132 : decode cL_isStep 1132 = .ok (.iload 12, 2) := by decide +kernel
theorem dL_isStep_1134 : decode cL_isStep 1134 = .ok (.iload 13, 2) := by decide +kernel
theorem dL_isStep_1136 : decode cL_isStep 1136 = .ok (.isub, 1) := by decide +kernel
theorem dL_isStep_1137 : decode cL_isStep 1137 = .ok (.goto 4, 3) := by decide +kernel
theorem dL_isStep_1140 : decode cL_isStep 1140 = .ok (.iconst 0, 1) := by decide +kernel
theorem dL_isStep_1141 : decode cL_isStep 1141 = .ok (.iadd, 1) := by decide +kernel
theorem dL_isStep_1142 : decode cL_isStep 1142 = .ok (.if_icmp .ne 7, 3) := by decide +kernel
theorem dL_isStep_1145 : decode cL_isStep 1145 = .ok (.iconst 1, 1) := by decide +kernel
theorem dL_isStep_1146 : decode cL_isStep 1146 = .ok (.goto 4, 3) := by decide +kernel
theorem dL_isStep_1149 : decode cL_isStep 1149 = .ok (.iconst 0, 1) := by decide +kernel
theorem dL_isStep_1150 : decode cL_isStep 1150 = .ok (.ireturn, 1) := by decide +kernel
theorem dL_areAlike_0 : decode cL_areAlike 0 = .ok (.aload_n 0, 1) := by decide +kernel
theorem dL_areAlike_1 : decode cL_areAlike 1 = .ok (.iconst 0, 1) := by decide +kernel
theorem dL_areAlike_2 : decode cL_areAlike 2 = .ok (.invokevirtual 64, 3) := by decide +kernel
theorem dL_areAlike_5 : decode cL_areAlike 5 = .ok (.aload_n 1, 1) := by decide +kernel
theorem dL_areAlike_6 : decode cL_areAlike 6 = .ok (.iconst 0, 1) := by decide +kernel
theorem dL_areAlike_7 : decode cL_areAlike 7 = .ok (.invokevirtual 64, 3) := by decide +kernel
theorem dL_areAlike_10 : decode cL_areAlike 10 = .ok (.if_icmp .ne 33, 3) := by decide +kernel
theorem dL_areAlike_13 : decode cL_areAlike 13 = .ok (.aload_n 0, 1) := by decide +kernel
theorem dL_areAlike_14 : decode cL_areAlike 14 = .ok (.iconst 1, 1) := by decide +kernel
theorem dL_areAlike_15 : decode cL_areAlike 15 = .ok (.invokevirtual 64, 3) := by decide +kernel
theorem dL_areAlike_18 : decode cL_areAlike 18 = .ok (.aload_n 1, 1) := by decide +kernel
theorem dL_areAlike_19 : decode cL_areAlike 19 = .ok (.iconst 1, 1) := by decide +kernel
theorem dL_areAlike_20 : decode cL_areAlike 20 = .ok (.invokevirtual 64, 3) := by decide +kernel
theorem dL_areAlike_23 : decode cL_areAlike 23 = .ok (.if_icmp .ne 20, 3) := by decide +kernel
theorem dL_areAlike_26 : decode cL_areAlike 26 = .ok (.aload_n 0, 1) := by decide +kernel
theorem dL_areAlike_27 : decode cL_areAlike 27 = .ok (.iconst 2, 1) := by decide +kernel
theorem dL_areAlike_28 : decode cL_areAlike 28 = .ok (.invokevirtual 64, 3) := by decide +kernel
theorem dL_areAlike_31 : decode cL_areAlike 31 = .ok (.aload_n 1, 1) := by decide +kernel
theorem dL_areAlike_32 : decode cL_areAlike 32 = .ok (.iconst 2, 1) := by decide +kernel
theorem dL_areAlike_33 : decode cL_areAlike 33 = .ok (.invokevirtual 64, 3) := by decide +kernel
theorem dL_areAlike_36 : decode cL_areAlike 36 = .ok (.if_icmp .ne 7, 3) := by decide +kernel
theorem dL_areAlike_39 : decode cL_areAlike 39 = .ok (.iconst 1, 1) := by decide +kernel
theorem dL_areAlike_40 : decode cL_areAlike 40 = .ok (.goto 4, 3) := by decide +kernel
theorem dL_areAlike_43 : decode cL_areAlike 43 = .ok (.iconst 0, 1) := by decide +kernel
theorem dL_areAlike_44 : decode cL_areAlike 44 = .ok (.istore_n 3, 1) := by decide +kernel
theorem dL_areAlike_45 : decode cL_areAlike 45 = .ok (.iconst 0, 1) := by decide +kernel
theorem dL_areAlike_46 : decode cL_areAlike 46 = .ok (.istore 4, 2) := by decide +kernel
theorem dL_areAlike_48 : decode cL_areAlike 48 = .ok (.iload 4, 2) := by decide +kernel
theorem dL_areAlike_50 : decode cL_areAlike 50 = .ok (.bipush 11, 2) := by decide +kernel
theorem dL_areAlike_52 : decode cL_areAlike 52 = .ok (.if_icmp .ge 34, 3) := by decide +kernel
theorem dL_areAlike_55 : decode cL_areAlike 55 = .ok (.iload_n 3, 1) := by decide +kernel
theorem dL_areAlike_56 : decode cL_areAlike 56 = .ok (.ifCond .eq 22, 3) := by decide +kernel
theorem dL_areAlike_59 : decode cL_areAlike 59 = .ok (.aload_n 0, 1) := by decide +kernel
theorem dL_areAlike_60 : decode cL_areAlike 60 = .ok (.iload 4, 2) := by decide +kernel
theorem dL_areAlike_62 : decode cL_areAlike 62 = .ok (.invokevirtual 24, 3) := by decide +kernel
theorem dL_areAlike_65 : decode cL_areAlike 65 = .ok (.aload_n 1, 1) := by decide +kernel
theorem dL_areAlike_66 : decode cL_areAlike 66 = .ok (.iload 4, 2) := by decide +kernel
theorem dL_areAlike_68 : decode cL_areAlike 68 = .ok (.invokevirtual 24, 3) := by decide +kernel
theorem dL_areAlike_71 : decode cL_areAlike 71 = .ok (.if_icmp .ne 7, 3) := by decide +kernel
theorem dL_areAlike_74 : decode cL_areAlike 74 = .ok (.iconst 1, 1) := by decide +kernel
theorem dL_areAlike_75 : decode cL_areAlike 75 = .ok (.goto 4, 3) := by decide +kernel
theorem dL_areAlike_78 : decode cL_areAlike 78 = .ok (.iconst 0, 1) := by decide +kernel
theorem dL_areAlike_79 : decode cL_areAlike 79 = .ok (.istore_n 3, 1) := by decide +kernel
theorem dL_areAlike_80 : decode cL_areAlike 80 = .ok (.iinc 4 1, 3) := by decide +kernel
theorem dL_areAlike_83 : decode cL_areAlike 83 = .ok (.goto (-35), 3) := by decide +kernel
theorem dL_areAlike_86 : decode cL_areAlike 86 = .ok (.iconst 0, 1) := by decide +kernel
theorem dL_areAlike_87 : decode cL_areAlike 87 = .ok (.istore 4, 2) := by decide +kernel
theorem dL_areAlike_89 : decode cL_areAlike 89 = .ok (.iload 4, 2) := by decide +kernel
theorem dL_areAlike_91 : decode cL_areAlike 91 = .ok (.bipush 39, 2) := by decide +kernel
theorem dL_areAlike_93 : decode cL_areAlike 93 = .ok (.if_icmp .ge 69, 3) := by decide +kernel
theorem dL_areAlike_96 : decode cL_areAlike 96 = .ok (.iload_n 3, 1) := by decide +kernel
theorem dL_areAlike_97 : decode cL_areAlike 97 = .ok (.ifCond .eq 57, 3) := by decide +kernel
theorem dL_areAlike_100 : decode cL_areAlike 100 = .ok (.aload_n 0, 1) := by decide +kernel
theorem dL_areAlike_101 : decode cL_areAlike 101 = .ok (.iload 4, 2) := by decide +kernel
theorem dL_areAlike_103 : decode cL_areAlike 103 = .ok (.bipush 13, 2) := by decide +kernel
theorem dL_areAlike_105 : decode cL_areAlike 105 = .ok (.idiv, 1) := by decide +kernel
theorem dL_areAlike_106 : decode cL_areAlike 106 = .ok (.iload 4, 2) := by decide +kernel
theorem dL_areAlike_108 : decode cL_areAlike 108 = .ok (.bipush 13, 2) := by decide +kernel
theorem dL_areAlike_110 : decode cL_areAlike 110 = .ok (.irem, 1) := by decide +kernel
theorem dL_areAlike_111 : decode cL_areAlike 111 = .ok (.invokevirtual 15, 3) := by decide +kernel
theorem dL_areAlike_114 : decode cL_areAlike 114 = .ok (.aload_n 1, 1) := by decide +kernel
theorem dL_areAlike_115 : decode cL_areAlike 115 = .ok (.iload 4, 2) := by decide +kernel
theorem dL_areAlike_117 : decode cL_areAlike 117 = .ok (.bipush 13, 2) := by decide +kernel
theorem dL_areAlike_119 : decode cL_areAlike 119 = .ok (.idiv, 1) := by decide +kernel
theorem dL_areAlike_120 : decode cL_areAlike 120 = .ok (.iload 4, 2) := by decide +kernel
theorem dL_areAlike_122 : decode cL_areAlike 122 = .ok (.bipush 13, 2) := by decide +kernel
theorem dL_areAlike_124 : decode cL_areAlike 124 = .ok (.irem, 1) := by decide +kernel
theorem dL_areAlike_125 : decode cL_areAlike 125 = .ok (.invokevirtual 15, 3) := by decide +kernel
theorem dL_areAlike_128 : decode cL_areAlike 128 = .ok (.if_icmp .ne 26, 3) := by decide +kernel
theorem dL_areAlike_131 : decode cL_areAlike 131 = .ok (.aload_n 0, 1) := by decide +kernel
theorem dL_areAlike_132 : decode cL_areAlike 132 = .ok (.iload 4, 2) := by decide +kernel
theorem dL_areAlike_134 : decode cL_areAlike 134 = .ok (.iconst 3, 1) := by decide +kernel
theorem dL_areAlike_135 : decode cL_areAlike 135 = .ok (.irem, 1) := by decide +kernel
theorem dL_areAlike_136 : decode cL_areAlike 136 = .ok (.invokevirtual 67, 3) := by decide +kernel
theorem dL_areAlike_139 : decode cL_areAlike 139 = .ok (.aload_n 1, 1) := by decide +kernel
theorem dL_areAlike_140 : decode cL_areAlike 140 = .ok (.iload 4, 2) := by decide +kernel
theorem dL_areAlike_142 : decode cL_areAlike 142 = .ok (.iconst 3, 1) := by decide +kernel
theorem dL_areAlike_143 : decode cL_areAlike 143 = .ok (.irem, 1) := by decide +kernel
theorem dL_areAlike_144 : decode cL_areAlike 144 = .ok (.invokevirtual 67, 3) := by decide +kernel
theorem dL_areAlike_147 : decode cL_areAlike 147 = .ok (.if_icmp .ne 7, 3) := by decide +kernel
theorem dL_areAlike_150 : decode cL_areAlike 150 = .ok (.iconst 1, 1) := by decide +kernel
theorem dL_areAlike_151 : decode cL_areAlike 151 = .ok (.goto 4, 3) := by decide +kernel
theorem dL_areAlike_154 : decode cL_areAlike 154 = .ok (.iconst 0, 1) := by decide +kernel
theorem dL_areAlike_155 : decode cL_areAlike 155 = .ok (.istore_n 3, 1) := by decide +kernel
theorem dL_areAlike_156 : decode cL_areAlike 156 = .ok (.iinc 4 1, 3) := by decide +kernel
theorem dL_areAlike_159 : decode cL_areAlike 159 = .ok (.goto (-70), 3) := by decide +kernel
theorem dL_areAlike_162 : decode cL_areAlike 162 = .ok (.iconst 0, 1) := by decide +kernel
theorem dL_areAlike_163 : decode cL_areAlike 163 = .ok (.istore 4, 2) := by decide +kernel
theorem dL_areAlike_165 : decode cL_areAlike 165 = .ok (.iload 4, 2) := by decide +kernel
theorem dL_areAlike_167 : decode cL_areAlike 167 = .ok (.iconst 4, 1) := by decide +kernel
theorem dL_areAlike_168 : decode cL_areAlike 168 = .ok (.aload_n 0, 1) := by decide +kernel
theorem dL_areAlike_169 : decode cL_areAlike 169 = .ok (.iconst 1, 1) := by decide +kernel
theorem dL_areAlike_170 : decode cL_areAlike 170 = .ok (.invokevirtual 24, 3) := by decide +kernel
theorem dL_areAlike_173 : decode cL_areAlike 173 = .ok (.imul, 1) := by decide +kernel
theorem dL_areAlike_174 : decode cL_areAlike 174 = .ok (.if_icmp .ge 46, 3) := by decide +kernel
theorem dL_areAlike_177 : decode cL_areAlike 177 = .ok (.iload_n 3, 1) := by decide +kernel
theorem dL_areAlike_178 : decode cL_areAlike 178 = .ok (.ifCond .eq 34, 3) := by decide +kernel
theorem dL_areAlike_181 : decode cL_areAlike 181 = .ok (.aload_n 0, 1) := by decide +kernel
theorem dL_areAlike_182 : decode cL_areAlike 182 = .ok (.iload 4, 2) := by decide +kernel
theorem dL_areAlike_184 : decode cL_areAlike 184 = .ok (.iconst 4, 1) := by decide +kernel
theorem dL_areAlike_185 : decode cL_areAlike 185 = .ok (.idiv, 1) := by decide +kernel
theorem dL_areAlike_186 : decode cL_areAlike 186 = .ok (.iload 4, 2) := by decide +kernel
theorem dL_areAlike_188 : decode cL_areAlike 188 = .ok (.iconst 4, 1) := by decide +kernel
theorem dL_areAlike_189 : decode cL_areAlike 189 = .ok (.irem, 1) := by decide +kernel
theorem dL_areAlike_190 : decode cL_areAlike 190 = .ok (.invokevirtual 91, 3) := by decide +kernel
theorem dL_areAlike_193 : decode cL_areAlike 193 = .ok (.aload_n 1, 1) := by decide +kernel
theorem dL_areAlike_194 : decode cL_areAlike 194 = .ok (.iload 4, 2) := by decide +kernel
theorem dL_areAlike_196 : decode cL_areAlike 196 = .ok (.iconst 4, 1) := by decide +kernel
theorem dL_areAlike_197 : decode cL_areAlike 197 = .ok (.idiv, 1) := by decide +kernel
theorem dL_areAlike_198 : decode cL_areAlike 198 = .ok (.iload 4, 2) := by decide +kernel
theorem dL_areAlike_200 : decode cL_areAlike 200 = .ok (.iconst 4, 1) := by decide +kernel
theorem dL_areAlike_201 : decode cL_areAlike 201 = .ok (.irem, 1) := by decide +kernel
theorem dL_areAlike_202 : decode cL_areAlike 202 = .ok (.invokevirtual 91, 3) := by decide +kernel
theorem dL_areAlike_205 : decode cL_areAlike 205 = .ok (.if_icmp .ne 7, 3) := by decide +kernel
theorem dL_areAlike_208 : decode cL_areAlike 208 = .ok (.iconst 1, 1) := by decide +kernel
theorem dL_areAlike_209 : decode cL_areAlike 209 = .ok (.goto 4, 3) := by decide +kernel
theorem dL_areAlike_212 : decode cL_areAlike 212 = .ok (.iconst 0, 1) := by decide +kernel
theorem dL_areAlike_213 : decode cL_areAlike 213 = .ok (.istore_n 3, 1) := by decide +kernel
theorem dL_areAlike_214 : decode cL_areAlike 214 = .ok (.iinc 4 1, 3) := by decide +kernel
theorem dL_areAlike_217 : decode cL_areAlike 217 = .ok (.goto (-52), 3) := by decide +kernel
theorem dL_areAlike_220 : decode cL_areAlike 220 = .ok (.iconst 1, 1) := by decide +kernel
theorem dL_areAlike_221 : decode cL_areAlike 221 = .ok (.iload_n 2, 1) := by decide +kernel
theorem dL_areAlike_222 : decode cL_areAlike 222 = .ok (.bipush 20, 2) := by decide +kernel
theorem dL_areAlike_224 : decode cL_areAlike 224 = .ok (.invokestatic 19, 3) := by decide +kernel
theorem dL_areAlike_227 : decode cL_areAlike 227 = .ok (.iadd, 1) := by decide +kernel
theorem dL_areAlike_228 : decode cL_areAlike 228 = .ok (.istore 4, 2) := by decide +kernel
theorem dL_areAlike_230 : decode cL_areAlike 230 = .ok (.iconst 0, 1) := by decide +kernel
theorem dL_areAlike_231 : decode cL_areAlike 231 = .ok (.istore 5, 2) := by decide +kernel
theorem dL_areAlike_233 : decode cL_areAlike 233 = .ok (.iload 5, 2) := by decide +kernel
theorem dL_areAlike_235 : decode cL_areAlike 235 = .ok (.iconst 3, 1) := by decide +kernel
theorem dL_areAlike_236 : decode cL_areAlike 236 = .ok (.if_icmp .ge 61, 3) := by decide +kernel
theorem dL_areAlike_239 : decode cL_areAlike 239 = .ok (.iload_n 3, 1) := by decide +kernel
theorem dL_areAlike_240 : decode cL_areAlike 240 = .ok (.ifCond .eq 49, 3) := by decide +kernel
theorem dL_areAlike_243 : decode cL_areAlike 243 = .ok (.aload_n 0, 1) := by decide +kernel
theorem dL_areAlike_244 : decode cL_areAlike 244 = .ok (.iload 5, 2) := by decide +kernel
theorem dL_areAlike_246 : decode cL_areAlike 246 = .ok (.iload 4, 2) := by decide +kernel
theorem dL_areAlike_248 : decode cL_areAlike 248 = .ok (.iconst 0, 1) := by decide +kernel
theorem dL_areAlike_249 : decode cL_areAlike 249 = .ok (.invokevirtual 94, 3) := by decide +kernel
theorem dL_areAlike_252 : decode cL_areAlike 252 = .ok (.aload_n 1, 1) := by decide +kernel
theorem dL_areAlike_253 : decode cL_areAlike 253 = .ok (.iload 5, 2) := by decide +kernel
theorem dL_areAlike_255 : decode cL_areAlike 255 = .ok (.iload 4, 2) := by decide +kernel
theorem dL_areAlike_257 : decode cL_areAlike 257 = .ok (.iconst 0, 1) := by decide +kernel
theorem dL_areAlike_258 : decode cL_areAlike 258 = .ok (.invokevirtual 94, 3) := by decide +kernel
theorem dL_areAlike_261 : decode cL_areAlike 261 = .ok (.if_icmp .ne 28, 3) := by decide +kernel
theorem dL_areAlike_264 : decode cL_areAlike 264 = .ok (.aload_n 0, 1) := by decide +kernel
theorem dL_areAlike_265 : decode cL_areAlike 265 = .ok (.iload 5, 2) := by decide +kernel
theorem dL_areAlike_267 : decode cL_areAlike 267 = .ok (.iload 4, 2) := by decide +kernel
theorem dL_areAlike_269 : decode cL_areAlike 269 = .ok (.iconst 1, 1) := by decide +kernel
theorem dL_areAlike_270 : decode cL_areAlike 270 = .ok (.invokevirtual 94, 3) := by decide +kernel
theorem dL_areAlike_273 : decode cL_areAlike 273 = .ok (.aload_n 1, 1) := by decide +kernel
theorem dL_areAlike_274 : decode cL_areAlike 274 = .ok (.iload 5, 2) := by decide +kernel
theorem dL_areAlike_276 : decode cL_areAlike 276 = .ok (.iload 4, 2) := by decide +kernel
theorem dL_areAlike_278 : decode cL_areAlike 278 = .ok (.iconst 1, 1) := by decide +kernel
theorem dL_areAlike_279 : decode cL_areAlike 279 = .ok (.invokevirtual 94, 3) := by decide +kernel
theorem dL_areAlike_282 : decode cL_areAlike 282 = .ok (.if_icmp .ne 7, 3) := by decide +kernel
theorem dL_areAlike_285 : decode cL_areAlike 285 = .ok (.iconst 1, 1) := by decide +kernel
theorem dL_areAlike_286 : decode cL_areAlike 286 = .ok (.goto 4, 3) := by decide +kernel
theorem dL_areAlike_289 : decode cL_areAlike 289 = .ok (.iconst 0, 1) := by decide +kernel
theorem dL_areAlike_290 : decode cL_areAlike 290 = .ok (.istore_n 3, 1) := by decide +kernel
theorem dL_areAlike_291 : decode cL_areAlike 291 = .ok (.iinc 5 1, 3) := by decide +kernel
theorem dL_areAlike_294 : decode cL_areAlike 294 = .ok (.goto (-61), 3) := by decide +kernel
theorem dL_areAlike_297 : decode cL_areAlike 297 = .ok (.iconst 1, 1) := by decide +kernel
theorem dL_areAlike_298 : decode cL_areAlike 298 = .ok (.iload_n 2, 1) := by decide +kernel
theorem dL_areAlike_299 : decode cL_areAlike 299 = .ok (.iconst 5, 1) := by decide +kernel
theorem dL_areAlike_300 : decode cL_areAlike 300 = .ok (.ishr, 1) := by decide +kernel
theorem dL_areAlike_301 : decode cL_areAlike 301 = .ok (.bipush 99, 2) := by decide +kernel
theorem dL_areAlike_303 : decode cL_areAlike 303 = .ok (.invokestatic 19, 3) := by decide +kernel
theorem dL_areAlike_306 : decode cL_areAlike 306 = .ok (.iadd, 1) := by decide +kernel
theorem dL_areAlike_307 : decode cL_areAlike 307 = .ok (.istore 5, 2) := by decide +kernel
theorem dL_areAlike_309 : decode cL_areAlike 309 = .ok (.iconst 0, 1) := by decide +kernel
theorem dL_areAlike_310 : decode cL_areAlike 310 = .ok (.istore 6, 2) := by decide +kernel
theorem dL_areAlike_312 : decode cL_areAlike 312 = .ok (.iload 6, 2) := by decide +kernel
theorem dL_areAlike_314 : decode cL_areAlike 314 = .ok (.iconst 4, 1) := by decide +kernel
theorem dL_areAlike_315 : decode cL_areAlike 315 = .ok (.if_icmp .ge 38, 3) := by decide +kernel
theorem dL_areAlike_318 : decode cL_areAlike 318 = .ok (.iload_n 3, 1) := by decide +kernel
theorem dL_areAlike_319 : decode cL_areAlike 319 = .ok (.ifCond .eq 26, 3) := by decide +kernel
theorem dL_areAlike_322 : decode cL_areAlike 322 = .ok (.aload_n 0, 1) := by decide +kernel
theorem dL_areAlike_323 : decode cL_areAlike 323 = .ok (.iload 5, 2) := by decide +kernel
theorem dL_areAlike_325 : decode cL_areAlike 325 = .ok (.iload 6, 2) := by decide +kernel
theorem dL_areAlike_327 : decode cL_areAlike 327 = .ok (.invokevirtual 73, 3) := by decide +kernel
theorem dL_areAlike_330 : decode cL_areAlike 330 = .ok (.aload_n 1, 1) := by decide +kernel
theorem dL_areAlike_331 : decode cL_areAlike 331 = .ok (.iload 5, 2) := by decide +kernel
theorem dL_areAlike_333 : decode cL_areAlike 333 = .ok (.iload 6, 2) := by decide +kernel
theorem dL_areAlike_335 : decode cL_areAlike 335 = .ok (.invokevirtual 73, 3) := by decide +kernel
theorem dL_areAlike_338 : decode cL_areAlike 338 = .ok (.if_icmp .ne 7, 3) := by decide +kernel
theorem dL_areAlike_341 : decode cL_areAlike 341 = .ok (.iconst 1, 1) := by decide +kernel
theorem dL_areAlike_342 : decode cL_areAlike 342 = .ok (.goto 4, 3) := by decide +kernel
theorem dL_areAlike_345 : decode cL_areAlike 345 = .ok (.iconst 0, 1) := by decide +kernel
theorem dL_areAlike_346 : decode cL_areAlike 346 = .ok (.istore_n 3, 1) := by decide +kernel
theorem dL_areAlike_347 : decode cL_areAlike 347 = .ok (.iinc 6 1, 3) := by decide +kernel
theorem dL_areAlike_350 : decode cL_areAlike 350 = .ok (.goto (-38), 3) := by decide +kernel
theorem dL_areAlike_353 : decode cL_areAlike 353 = .ok (.iload_n 2, 1) := by decide +kernel
theorem dL_areAlike_354 : decode cL_areAlike 354 = .ok (.iconst 3, 1) := by decide +kernel
theorem dL_areAlike_355 : decode cL_areAlike 355 = .ok (.ishr, 1) := by decide +kernel
theorem dL_areAlike_356 : decode cL_areAlike 356 = .ok (.aload_n 0, 1) := by decide +kernel
theorem dL_areAlike_357 : decode cL_areAlike 357 = .ok (.iconst 1, 1) := by decide +kernel
theorem dL_areAlike_358 : decode cL_areAlike 358 = .ok (.invokevirtual 24, 3) := by decide +kernel
theorem dL_areAlike_361 : decode cL_areAlike 361 = .ok (.iconst 1, 1) := by decide +kernel
theorem dL_areAlike_362 : decode cL_areAlike 362 = .ok (.iadd, 1) := by decide +kernel
theorem dL_areAlike_363 : decode cL_areAlike 363 = .ok (.invokestatic 19, 3) := by decide +kernel
theorem dL_areAlike_366 : decode cL_areAlike 366 = .ok (.istore 6, 2) := by decide +kernel
theorem dL_areAlike_368 : decode cL_areAlike 368 = .ok (.aload_n 0, 1) := by decide +kernel
theorem dL_areAlike_369 : decode cL_areAlike 369 = .ok (.iload 6, 2) := by decide +kernel
theorem dL_areAlike_371 : decode cL_areAlike 371 = .ok (.invokevirtual 97, 3) := by decide +kernel
theorem dL_areAlike_374 : decode cL_areAlike 374 = .ok (.istore 7, 2) := by decide +kernel
theorem dL_areAlike_376 : decode cL_areAlike 376 = .ok (.iload_n 3, 1) := by decide +kernel
theorem dL_areAlike_377 : decode cL_areAlike 377 = .ok (.ifCond .eq 41, 3) := by decide +kernel
theorem dL_areAlike_380 : decode cL_areAlike 380 = .ok (.iload 7, 2) := by decide +kernel
theorem dL_areAlike_382 : decode cL_areAlike 382 = .ok (.aload_n 1, 1) := by decide +kernel
theorem dL_areAlike_383 : decode cL_areAlike 383 = .ok (.iload 6, 2) := by decide +kernel
theorem dL_areAlike_385 : decode cL_areAlike 385 = .ok (.invokevirtual 97, 3) := by decide +kernel
theorem dL_areAlike_388 : decode cL_areAlike 388 = .ok (.if_icmp .ne 30, 3) := by decide +kernel
theorem dL_areAlike_391 : decode cL_areAlike 391 = .ok (.iload 7, 2) := by decide +kernel
theorem dL_areAlike_393 : decode cL_areAlike 393 = .ok (.iconst 1, 1) := by decide +kernel
theorem dL_areAlike_394 : decode cL_areAlike 394 = .ok (.if_icmp .lt 20, 3) := by decide +kernel
theorem dL_areAlike_397 : decode cL_areAlike 397 = .ok (.iload 7, 2) := by decide +kernel
theorem dL_areAlike_399 : decode cL_areAlike 399 = .ok (.bipush 99, 2) := by decide +kernel
theorem dL_areAlike_401 : decode cL_areAlike 401 = .ok (.if_icmp .gt 13, 3) := by decide +kernel
theorem dL_areAlike_404 : decode cL_areAlike 404 = .ok (.aload_n 0, 1) := by decide +kernel
theorem dL_areAlike_405 : decode cL_areAlike 405 = .ok (.iload 7, 2) := by decide +kernel
theorem dL_areAlike_407 : decode cL_areAlike 407 = .ok (.iconst 0, 1) := by decide +kernel
theorem dL_areAlike_408 : decode cL_areAlike 408 = .ok (.invokevirtual 73, 3) := by decide +kernel
theorem dL_areAlike_411 : decode cL_areAlike 411 = .ok (.ifCond .le 7, 3) := by decide +kernel
theorem dL_areAlike_414 : decode cL_areAlike 414 = .ok (.iconst 1, 1) := by decide +kernel
theorem dL_areAlike_415 : decode cL_areAlike 415 = .ok (.goto 4, 3) := by decide +kernel
theorem dL_areAlike_418 : decode cL_areAlike 418 = .ok (.iconst 0, 1) := by decide +kernel
theorem dL_areAlike_419 : decode cL_areAlike 419 = .ok (.ireturn, 1) := by decide +kernel
theorem dL_isWell_0 : decode cL_isWell 0 = .ok (.aload_n 0, 1) := by decide +kernel
theorem dL_isWell_1 : decode cL_isWell 1 = .ok (.iconst 1, 1) := by decide +kernel
theorem dL_isWell_2 : decode cL_isWell 2 = .ok (.invokevirtual 24, 3) := by decide +kernel
theorem dL_isWell_5 : decode cL_isWell 5 = .ok (.aload_n 0, 1) := by decide +kernel
theorem dL_isWell_6 : decode cL_isWell 6 = .ok (.iconst 2, 1) := by decide +kernel
theorem dL_isWell_7 : decode cL_isWell 7 = .ok (.invokevirtual 24, 3) := by decide +kernel
theorem dL_isWell_10 : decode cL_isWell 10 = .ok (.aload_n 0, 1) := by decide +kernel
theorem dL_isWell_11 : decode cL_isWell 11 = .ok (.iconst 3, 1) := by decide +kernel
theorem dL_isWell_12 : decode cL_isWell 12 = .ok (.invokevirtual 24, 3) := by decide +kernel
theorem dL_isWell_15 : decode cL_isWell 15 = .ok (.iadd, 1) := by decide +kernel
theorem dL_isWell_16 : decode cL_isWell 16 = .ok (.aload_n 0, 1) := by decide +kernel
theorem dL_isWell_17 : decode cL_isWell 17 = .ok (.iconst 4, 1) := by decide +kernel
theorem dL_isWell_18 : decode cL_isWell 18 = .ok (.invokevirtual 24, 3) := by decide +kernel
theorem dL_isWell_21 : decode cL_isWell 21 = .ok (.iadd, 1) := by decide +kernel
theorem dL_isWell_22 : decode cL_isWell 22 = .ok (.if_icmp .ne 62, 3) := by decide +kernel
theorem dL_isWell_25 : decode cL_isWell 25 = .ok (.aload_n 0, 1) := by decide +kernel
theorem dL_isWell_26 : decode cL_isWell 26 = .ok (.iconst 2, 1) := by decide +kernel
theorem dL_isWell_27 : decode cL_isWell 27 = .ok (.invokevirtual 24, 3) := by decide +kernel
theorem dL_isWell_30 : decode cL_isWell 30 = .ok (.aload_n 0, 1) := by decide +kernel
theorem dL_isWell_31 : decode cL_isWell 31 = .ok (.iconst 3, 1) := by decide +kernel
theorem dL_isWell_32 : decode cL_isWell 32 = .ok (.invokestatic 57, 3) := by decide +kernel
theorem dL_isWell_35 : decode cL_isWell 35 = .ok (.if_icmp .ne 49, 3) := by decide +kernel
theorem dL_isWell_38 : decode cL_isWell 38 = .ok (.aload_n 0, 1) := by decide +kernel
theorem dL_isWell_39 : decode cL_isWell 39 = .ok (.iconst 3, 1) := by decide +kernel
theorem dL_isWell_40 : decode cL_isWell 40 = .ok (.invokevirtual 24, 3) := by decide +kernel
theorem dL_isWell_43 : decode cL_isWell 43 = .ok (.aload_n 0, 1) := by decide +kernel
theorem dL_isWell_44 : decode cL_isWell 44 = .ok (.bipush 7, 2) := by decide +kernel
theorem dL_isWell_46 : decode cL_isWell 46 = .ok (.invokestatic 57, 3) := by decide +kernel
theorem dL_isWell_49 : decode cL_isWell 49 = .ok (.if_icmp .ne 35, 3) := by decide +kernel
theorem dL_isWell_52 : decode cL_isWell 52 = .ok (.aload_n 0, 1) := by decide +kernel
theorem dL_isWell_53 : decode cL_isWell 53 = .ok (.iconst 4, 1) := by decide +kernel
theorem dL_isWell_54 : decode cL_isWell 54 = .ok (.invokevirtual 24, 3) := by decide +kernel
theorem dL_isWell_57 : decode cL_isWell 57 = .ok (.aload_n 0, 1) := by decide +kernel
theorem dL_isWell_58 : decode cL_isWell 58 = .ok (.bipush 8, 2) := by decide +kernel
theorem dL_isWell_60 : decode cL_isWell 60 = .ok (.invokestatic 57, 3) := by decide +kernel
theorem dL_isWell_63 : decode cL_isWell 63 = .ok (.if_icmp .ne 21, 3) := by decide +kernel
theorem dL_isWell_66 : decode cL_isWell 66 = .ok (.aload_n 0, 1) := by decide +kernel
theorem dL_isWell_67 : decode cL_isWell 67 = .ok (.iconst 5, 1) := by decide +kernel
theorem dL_isWell_68 : decode cL_isWell 68 = .ok (.invokevirtual 24, 3) := by decide +kernel
theorem dL_isWell_71 : decode cL_isWell 71 = .ok (.aload_n 0, 1) := by decide +kernel
theorem dL_isWell_72 : decode cL_isWell 72 = .ok (.bipush 6, 2) := by decide +kernel
theorem dL_isWell_74 : decode cL_isWell 74 = .ok (.invokestatic 57, 3) := by decide +kernel
theorem dL_isWell_77 : decode cL_isWell 77 = .ok (.if_icmp .ne 7, 3) := by decide +kernel
theorem dL_isWell_80 : decode cL_isWell 80 = .ok (.iconst 1, 1) := by decide +kernel
theorem dL_isWell_81 : decode cL_isWell 81 = .ok (.goto 4, 3) := by decide +kernel
theorem dL_isWell_84 : decode cL_isWell 84 = .ok (.iconst 0, 1) := by decide +kernel
theorem dL_isWell_85 : decode cL_isWell 85 = .ok (.istore_n 1, 1) := by decide +kernel
theorem dL_isWell_86 : decode cL_isWell 86 = .ok (.iconst 0, 1) := by decide +kernel
theorem dL_isWell_87 : decode cL_isWell 87 = .ok (.istore_n 2, 1) := by decide +kernel
theorem dL_isWell_88 : decode cL_isWell 88 = .ok (.iconst 0, 1) := by decide +kernel
theorem dL_isWell_89 : decode cL_isWell 89 = .ok (.istore_n 3, 1) := by decide +kernel
theorem dL_isWell_90 : decode cL_isWell 90 = .ok (.iload_n 3, 1) := by decide +kernel
theorem dL_isWell_91 : decode cL_isWell 91 = .ok (.iconst 3, 1) := by decide +kernel
theorem dL_isWell_92 : decode cL_isWell 92 = .ok (.if_icmp .ge 65, 3) := by decide +kernel
theorem dL_isWell_95 : decode cL_isWell 95 = .ok (.aload_n 0, 1) := by decide +kernel
theorem dL_isWell_96 : decode cL_isWell 96 = .ok (.iload_n 3, 1) := by decide +kernel
theorem dL_isWell_97 : decode cL_isWell 97 = .ok (.invokevirtual 64, 3) := by decide +kernel
theorem dL_isWell_100 : decode cL_isWell 100 = .ok (.istore 4, 2) := by decide +kernel
theorem dL_isWell_102 : decode cL_isWell 102 = .ok (.iload_n 2, 1) := by decide +kernel
theorem dL_isWell_103 : decode cL_isWell 103 = .ok (.iload 4, 2) := by decide +kernel
theorem dL_isWell_105 : decode cL_isWell 105 = .ok (.ifCond .lt 7, 3) := by decide +kernel
theorem dL_isWell_108 : decode cL_isWell 108 = .ok (.iconst 1, 1) := by decide +kernel
theorem dL_isWell_109 : decode cL_isWell 109 = .ok (.goto 4, 3) := by decide +kernel
theorem dL_isWell_112 : decode cL_isWell 112 = .ok (.iconst 0, 1) := by decide +kernel
theorem dL_isWell_113 : decode cL_isWell 113 = .ok (.iadd, 1) := by decide +kernel
theorem dL_isWell_114 : decode cL_isWell 114 = .ok (.istore_n 2, 1) := by decide +kernel
theorem dL_isWell_115 : decode cL_isWell 115 = .ok (.iload_n 1, 1) := by decide +kernel
theorem dL_isWell_116 : decode cL_isWell 116 = .ok (.ifCond .eq 33, 3) := by decide +kernel
theorem dL_isWell_119 : decode cL_isWell 119 = .ok (.iload 4, 2) := by decide +kernel
theorem dL_isWell_121 : decode cL_isWell 121 = .ok (.ifCond .lt 14, 3) := by decide +kernel
theorem dL_isWell_124 : decode cL_isWell 124 = .ok (.aload_n 0, 1) := by decide +kernel
theorem dL_isWell_125 : decode cL_isWell 125 = .ok (.iload 4, 2) := by decide +kernel
theorem dL_isWell_127 : decode cL_isWell 127 = .ok (.iconst 4, 1) := by decide +kernel
theorem dL_isWell_128 : decode cL_isWell 128 = .ok (.invokevirtual 15, 3) := by decide +kernel
theorem dL_isWell_131 : decode cL_isWell 131 = .ok (.iconst 1, 1) := by decide +kernel
theorem dL_isWell_132 : decode cL_isWell 132 = .ok (.if_icmp .ne 17, 3) := by decide +kernel
theorem dL_isWell_135 : decode cL_isWell 135 = .ok (.iload 4, 2) := by decide +kernel
theorem dL_isWell_137 : decode cL_isWell 137 = .ok (.ifCond .ge 8, 3) := by decide +kernel
theorem dL_isWell_140 : decode cL_isWell 140 = .ok (.iload_n 3, 1) := by decide +kernel
theorem dL_isWell_141 : decode cL_isWell 141 = .ok (.iload_n 2, 1) := by decide +kernel
theorem dL_isWell_142 : decode cL_isWell 142 = .ok (.if_icmp .lt 7, 3) := by decide +kernel
theorem dL_isWell_145 : decode cL_isWell 145 = .ok (.iconst 1, 1) := by decide +kernel
theorem dL_isWell_146 : decode cL_isWell 146 = .ok (.goto 4, 3) := by decide +kernel
theorem dL_isWell_149 : decode cL_isWell 149 = .ok (.iconst 0, 1) := by decide +kernel
theorem dL_isWell_150 : decode cL_isWell 150 = .ok (.istore_n 1, 1) := by decide +kernel
theorem dL_isWell_151 : decode cL_isWell 151 = .ok (.iinc 3 1, 3) := by decide +kernel
theorem dL_isWell_154 : decode cL_isWell 154 = .ok (.goto (-64), 3) := by decide +kernel
theorem dL_isWell_157 : decode cL_isWell 157 = .ok (.iload_n 1, 1) := by decide +kernel
theorem dL_isWell_158 : decode cL_isWell 158 = .ok (.ifCond .eq 16, 3) := by decide +kernel
theorem dL_isWell_161 : decode cL_isWell 161 = .ok (.iload_n 2, 1) := by decide +kernel
theorem dL_isWell_162 : decode cL_isWell 162 = .ok (.aload_n 0, 1) := by decide +kernel
theorem dL_isWell_163 : decode cL_isWell 163 = .ok (.iconst 4, 1) := by decide +kernel
theorem dL_isWell_164 : decode cL_isWell 164 = .ok (.invokestatic 57, 3) := by decide +kernel
theorem dL_isWell_167 : decode cL_isWell 167 = .ok (.if_icmp .ne 7, 3) := by decide +kernel
theorem dL_isWell_170 : decode cL_isWell 170 = .ok (.iconst 1, 1) := by decide +kernel
theorem dL_isWell_171 : decode cL_isWell 171 = .ok (.goto 4, 3) := by decide +kernel
theorem dL_isWell_174 : decode cL_isWell 174 = .ok (.iconst 0, 1) := by decide +kernel
theorem dL_isWell_175 : decode cL_isWell 175 = .ok (.istore_n 1, 1) := by decide +kernel
theorem dL_isWell_176 : decode cL_isWell 176 = .ok (.iconst 0, 1) := by decide +kernel
theorem dL_isWell_177 : decode cL_isWell 177 = .ok (.istore_n 3, 1) := by decide +kernel
theorem dL_isWell_178 : decode cL_isWell 178 = .ok (.iload_n 3, 1) := by decide +kernel
theorem dL_isWell_179 : decode cL_isWell 179 = .ok (.iconst 3, 1) := by decide +kernel
theorem dL_isWell_180 : decode cL_isWell 180 = .ok (.if_icmp .ge 382, 3) := by decide +kernel
theorem dL_isWell_183 : decode cL_isWell 183 = .ok (.iconst 0, 1) := by decide +kernel
theorem dL_isWell_184 : decode cL_isWell 184 = .ok (.istore 4, 2) := by decide +kernel
theorem dL_isWell_186 : decode cL_isWell 186 = .ok (.bipush (-6), 2) := by decide +kernel
theorem dL_isWell_188 : decode cL_isWell 188 = .ok (.istore 5, 2) := by decide +kernel
theorem dL_isWell_190 : decode cL_isWell 190 = .ok (.iconst 0, 1) := by decide +kernel
theorem dL_isWell_191 : decode cL_isWell 191 = .ok (.istore 6, 2) := by decide +kernel
theorem dL_isWell_193 : decode cL_isWell 193 = .ok (.bipush (-6), 2) := by decide +kernel
theorem dL_isWell_195 : decode cL_isWell 195 = .ok (.istore 7, 2) := by decide +kernel
theorem dL_isWell_197 : decode cL_isWell 197 = .ok (.iconst (-1), 1) := by decide +kernel
theorem dL_isWell_198 : decode cL_isWell 198 = .ok (.istore 8, 2) := by decide +kernel
theorem dL_isWell_200 : decode cL_isWell 200 = .ok (.aload_n 0, 1) := by decide +kernel
theorem dL_isWell_201 : decode cL_isWell 201 = .ok (.iconst 1, 1) := by decide +kernel
theorem dL_isWell_202 : decode cL_isWell 202 = .ok (.invokevirtual 24, 3) := by decide +kernel
theorem dL_isWell_205 : decode cL_isWell 205 = .ok (.iconst 1, 1) := by decide +kernel
theorem dL_isWell_206 : decode cL_isWell 206 = .ok (.isub, 1) := by decide +kernel
theorem dL_isWell_207 : decode cL_isWell 207 = .ok (.istore 9, 2) := by decide +kernel
theorem dL_isWell_209 : decode cL_isWell 209 = .ok (.iload 9, 2) := by decide +kernel
theorem dL_isWell_211 : decode cL_isWell 211 = .ok (.ifCond .lt 185, 3) := by decide +kernel
theorem dL_isWell_214 : decode cL_isWell 214 = .ok (.aload_n 0, 1) := by decide +kernel
theorem dL_isWell_215 : decode cL_isWell 215 = .ok (.iload 9, 2) := by decide +kernel
theorem dL_isWell_217 : decode cL_isWell 217 = .ok (.iconst 0, 1) := by decide +kernel
theorem dL_isWell_218 : decode cL_isWell 218 = .ok (.invokevirtual 91, 3) := by decide +kernel
theorem dL_isWell_221 : decode cL_isWell 221 = .ok (.iconst 3, 1) := by decide +kernel
theorem dL_isWell_222 : decode cL_isWell 222 = .ok (.irem, 1) := by decide +kernel
theorem dL_isWell_223 : decode cL_isWell 223 = .ok (.iload_n 3, 1) := by decide +kernel
theorem dL_isWell_224 : decode cL_isWell 224 = .ok (.if_icmp .ne 166, 3) := by decide +kernel
theorem dL_isWell_227 : decode cL_isWell 227 = .ok (.aload_n 0, 1) := by decide +kernel
theorem dL_isWell_228 : decode cL_isWell 228 = .ok (.iload 9, 2) := by decide +kernel
theorem dL_isWell_230 : decode cL_isWell 230 = .ok (.iconst 2, 1) := by decide +kernel
theorem dL_isWell_231 : decode cL_isWell 231 = .ok (.invokevirtual 91, 3) := by decide +kernel
theorem dL_isWell_234 : decode cL_isWell 234 = .ok (.istore 10, 2) := by decide +kernel
theorem dL_isWell_236 : decode cL_isWell 236 = .ok (.aload_n 0, 1) := by decide +kernel
theorem dL_isWell_237 : decode cL_isWell 237 = .ok (.iload 9, 2) := by decide +kernel
theorem dL_isWell_239 : decode cL_isWell 239 = .ok (.iconst 3, 1) := by decide +kernel
theorem dL_isWell_240 : decode cL_isWell 240 = .ok (.invokevirtual 91, 3) := by decide +kernel
theorem dL_isWell_243 : decode cL_isWell 243 = .ok (.istore 11, 2) := by decide +kernel
theorem dL_isWell_245 : decode cL_isWell 245 = .ok (.iload 4, 2) := by decide +kernel
theorem dL_isWell_247 : decode cL_isWell 247 = .ok (.iload 10, 2) := by decide +kernel
theorem dL_isWell_249 : decode cL_isWell 249 = .ok (.iconst 1, 1) := by decide +kernel
theorem dL_isWell_250 : decode cL_isWell 250 = .ok (.if_icmp .ne 8, 3) := by decide +kernel
theorem dL_isWell_253 : decode cL_isWell 253 = .ok (.iload 11, 2) := by decide +kernel
theorem dL_isWell_255 : decode cL_isWell 255 = .ok (.goto 4, 3) := by decide +kernel
theorem dL_isWell_258 : decode cL_isWell 258 = .ok (.iconst 0, 1) := by decide +kernel
theorem dL_isWell_259 : decode cL_isWell 259 = .ok (.iadd, 1) := by decide +kernel
theorem dL_isWell_260 : decode cL_isWell 260 = .ok (.istore 4, 2) := by decide +kernel
theorem dL_isWell_262 : decode cL_isWell 262 = .ok (.iload 10, 2) := by decide +kernel
theorem dL_isWell_264 : decode cL_isWell 264 = .ok (.iconst 1, 1) := by decide +kernel
theorem dL_isWell_265 : decode cL_isWell 265 = .ok (.if_icmp .ne 15, 3) := by decide +kernel
theorem dL_isWell_268 : decode cL_isWell 268 = .ok (.iload 11, 2) := by decide +kernel
theorem dL_isWell_270 : decode cL_isWell 270 = .ok (.iload 5, 2) := by decide +kernel
theorem dL_isWell_272 : decode cL_isWell 272 = .ok (.if_icmp .le 8, 3) := by decide +kernel
theorem dL_isWell_275 : decode cL_isWell 275 = .ok (.iload 11, 2) := by decide +kernel
theorem dL_isWell_277 : decode cL_isWell 277 = .ok (.goto 5, 3) := by decide +kernel
theorem dL_isWell_280 : decode cL_isWell 280 = .ok (.iload 5, 2) := by decide +kernel
theorem dL_isWell_282 : decode cL_isWell 282 = .ok (.istore 5, 2) := by decide +kernel
theorem dL_isWell_284 : decode cL_isWell 284 = .ok (.iload 6, 2) := by decide +kernel
theorem dL_isWell_286 : decode cL_isWell 286 = .ok (.iload 10, 2) := by decide +kernel
theorem dL_isWell_288 : decode cL_isWell 288 = .ok (.ifCond .ne 7, 3) := by decide +kernel
theorem dL_isWell_291 : decode cL_isWell 291 = .ok (.iconst 1, 1) := by decide +kernel
theorem dL_isWell_292 : decode cL_isWell 292 = .ok (.goto 4, 3) := by decide +kernel
theorem dL_isWell_295 : decode cL_isWell 295 = .ok (.iconst 0, 1) := by decide +kernel
theorem dL_isWell_296 : decode cL_isWell 296 = .ok (.iadd, 1) := by decide +kernel
theorem dL_isWell_297 : decode cL_isWell 297 = .ok (.istore 6, 2) := by decide +kernel
theorem dL_isWell_299 : decode cL_isWell 299 = .ok (.iload 10, 2) := by decide +kernel
theorem dL_isWell_301 : decode cL_isWell 301 = .ok (.ifCond .ne 8, 3) := by decide +kernel
theorem dL_isWell_304 : decode cL_isWell 304 = .ok (.iload 9, 2) := by decide +kernel
theorem dL_isWell_306 : decode cL_isWell 306 = .ok (.goto 5, 3) := by decide +kernel
theorem dL_isWell_309 : decode cL_isWell 309 = .ok (.iload 7, 2) := by decide +kernel
theorem dL_isWell_311 : decode cL_isWell 311 = .ok (.istore 7, 2) := by decide +kernel
theorem dL_isWell_313 : decode cL_isWell 313 = .ok (.iload_n 1, 1) := by decide +kernel
theorem dL_isWell_314 : decode cL_isWell 314 = .ok (.ifCond .eq 59, 3) := by decide +kernel
theorem dL_isWell_317 : decode cL_isWell 317 = .ok (.iload 10, 2) := by decide +kernel
theorem dL_isWell_319 : decode cL_isWell 319 = .ok (.ifCond .ne 9, 3) := by decide +kernel
theorem dL_isWell_322 : decode cL_isWell 322 = .ok (.iload 8, 2) := by decide +kernel
theorem dL_isWell_324 : decode cL_isWell 324 = .ok (.iconst 1, 1) := by decide +kernel
theorem dL_isWell_325 : decode cL_isWell 325 = .ok (.if_icmp .eq 48, 3) := by decide +kernel
theorem dL_isWell_328 : decode cL_isWell 328 = .ok (.aload_n 0, 1) := by decide +kernel
theorem dL_isWell_329 : decode cL_isWell 329 = .ok (.iload 9, 2) := by decide +kernel
theorem dL_isWell_331 : decode cL_isWell 331 = .ok (.iconst 1, 1) := by decide +kernel
theorem dL_isWell_332 : decode cL_isWell 332 = .ok (.invokevirtual 91, 3) := by decide +kernel
theorem dL_isWell_335 : decode cL_isWell 335 = .ok (.aload_n 0, 1) := by decide +kernel
theorem dL_isWell_336 : decode cL_isWell 336 = .ok (.iconst 0, 1) := by decide +kernel
theorem dL_isWell_337 : decode cL_isWell 337 = .ok (.invokevirtual 24, 3) := by decide +kernel
theorem dL_isWell_340 : decode cL_isWell 340 = .ok (.if_icmp .gt 33, 3) := by decide +kernel
theorem dL_isWell_343 : decode cL_isWell 343 = .ok (.iload 10, 2) := by decide +kernel
theorem dL_isWell_345 : decode cL_isWell 345 = .ok (.iconst 2, 1) := by decide +kernel
theorem dL_isWell_346 : decode cL_isWell 346 = .ok (.if_icmp .ne 7, 3) := by decide +kernel
theorem dL_isWell_349 : decode cL_isWell 349 = .ok (.iconst 1, 1) := by decide +kernel
theorem dL_isWell_350 : decode cL_isWell 350 = .ok (.goto 4, 3) := by decide +kernel
theorem dL_isWell_353 : decode cL_isWell 353 = .ok (.iconst 0, 1) := by decide +kernel
theorem dL_isWell_354 : decode cL_isWell 354 = .ok (.iload 11, 2) := by decide +kernel
theorem dL_isWell_356 : decode cL_isWell 356 = .ok (.bipush (-6), 2) := by decide +kernel
theorem dL_isWell_358 : decode cL_isWell 358 = .ok (.if_icmp .ne 7, 3) := by decide +kernel
theorem dL_isWell_361 : decode cL_isWell 361 = .ok (.iconst 1, 1) := by decide +kernel
theorem dL_isWell_362 : decode cL_isWell 362 = .ok (.goto 4, 3) := by decide +kernel
theorem dL_isWell_365 : decode cL_isWell 365 = .ok (.iconst 0, 1) := by decide +kernel
theorem dL_isWell_366 : decode cL_isWell 366 = .ok (.if_icmp .ne 7, 3) := by decide +kernel
theorem dL_isWell_369 : decode cL_isWell 369 = .ok (.iconst 1, 1) := by decide +kernel
theorem dL_isWell_370 : decode cL_isWell 370 = .ok (.goto 4, 3) := by decide +kernel
theorem dL_isWell_373 : decode cL_isWell 373 = .ok (.iconst 0, 1) := by decide +kernel
theorem dL_isWell_374 : decode cL_isWell 374 = .ok (.istore_n 1, 1) := by decide +kernel
theorem dL_isWell_375 : decode cL_isWell 375 = .ok (.iload 10, 2) := by decide +kernel
theorem dL_isWell_377 : decode cL_isWell 377 = .ok (.iconst 2, 1) := by decide +kernel
theorem dL_isWell_378 : decode cL_isWell 378 = .ok (.if_icmp .ne 8, 3) := by decide +kernel
theorem dL_isWell_381 : decode cL_isWell 381 = .ok (.iload 8, 2) := by decide +kernel
theorem dL_isWell_383 : decode cL_isWell 383 = .ok (.goto 5, 3) := by decide +kernel
theorem dL_isWell_386 : decode cL_isWell 386 = .ok (.iload 10, 2) := by decide +kernel
theorem dL_isWell_388 : decode cL_isWell 388 = .ok (.istore 8, 2) := by decide +kernel
theorem dL_isWell_390 : decode cL_isWell 390 = .ok (.iinc 9 (-1), 3) := by decide +kernel
theorem dL_isWell_393 : decode cL_isWell 393 = .ok (.goto (-184), 3) := by decide +kernel
theorem dL_isWell_396 : decode cL_isWell 396 = .ok (.iload_n 1, 1) := by decide +kernel
theorem dL_isWell_397 : decode cL_isWell 397 = .ok (.ifCond .eq 157, 3) := by decide +kernel
theorem dL_isWell_400 : decode cL_isWell 400 = .ok (.iload 4, 2) := by decide +kernel
theorem dL_isWell_402 : decode cL_isWell 402 = .ok (.aload_n 0, 1) := by decide +kernel
theorem dL_isWell_403 : decode cL_isWell 403 = .ok (.iload_n 3, 1) := by decide +kernel
theorem dL_isWell_404 : decode cL_isWell 404 = .ok (.bipush 9, 2) := by decide +kernel
theorem dL_isWell_406 : decode cL_isWell 406 = .ok (.invokevirtual 15, 3) := by decide +kernel
theorem dL_isWell_409 : decode cL_isWell 409 = .ok (.if_icmp .ne 145, 3) := by decide +kernel
theorem dL_isWell_412 : decode cL_isWell 412 = .ok (.iload 5, 2) := by decide +kernel
theorem dL_isWell_414 : decode cL_isWell 414 = .ok (.aload_n 0, 1) := by decide +kernel
theorem dL_isWell_415 : decode cL_isWell 415 = .ok (.iload_n 3, 1) := by decide +kernel
theorem dL_isWell_416 : decode cL_isWell 416 = .ok (.bipush 10, 2) := by decide +kernel
theorem dL_isWell_418 : decode cL_isWell 418 = .ok (.invokevirtual 15, 3) := by decide +kernel
theorem dL_isWell_421 : decode cL_isWell 421 = .ok (.if_icmp .ne 133, 3) := by decide +kernel
theorem dL_isWell_424 : decode cL_isWell 424 = .ok (.iload 6, 2) := by decide +kernel
theorem dL_isWell_426 : decode cL_isWell 426 = .ok (.aload_n 0, 1) := by decide +kernel
theorem dL_isWell_427 : decode cL_isWell 427 = .ok (.iload_n 3, 1) := by decide +kernel
theorem dL_isWell_428 : decode cL_isWell 428 = .ok (.iconst 3, 1) := by decide +kernel
theorem dL_isWell_429 : decode cL_isWell 429 = .ok (.invokevirtual 15, 3) := by decide +kernel
theorem dL_isWell_432 : decode cL_isWell 432 = .ok (.if_icmp .ne 122, 3) := by decide +kernel
theorem dL_isWell_435 : decode cL_isWell 435 = .ok (.iload 7, 2) := by decide +kernel
theorem dL_isWell_437 : decode cL_isWell 437 = .ok (.aload_n 0, 1) := by decide +kernel
theorem dL_isWell_438 : decode cL_isWell 438 = .ok (.iload_n 3, 1) := by decide +kernel
theorem dL_isWell_439 : decode cL_isWell 439 = .ok (.bipush 12, 2) := by decide +kernel
theorem dL_isWell_441 : decode cL_isWell 441 = .ok (.invokevirtual 15, 3) := by decide +kernel
theorem dL_isWell_444 : decode cL_isWell 444 = .ok (.if_icmp .ne 110, 3) := by decide +kernel
theorem dL_isWell_447 : decode cL_isWell 447 = .ok (.aload_n 0, 1) := by decide +kernel
theorem dL_isWell_448 : decode cL_isWell 448 = .ok (.iload_n 3, 1) := by decide +kernel
theorem dL_isWell_449 : decode cL_isWell 449 = .ok (.iconst 2, 1) := by decide +kernel
theorem dL_isWell_450 : decode cL_isWell 450 = .ok (.invokevirtual 15, 3) := by decide +kernel
theorem dL_isWell_453 : decode cL_isWell 453 = .ok (.iconst 1, 1) := by decide +kernel
theorem dL_isWell_454 : decode cL_isWell 454 = .ok (.if_icmp .lt 100, 3) := by decide +kernel
theorem dL_isWell_457 : decode cL_isWell 457 = .ok (.aload_n 0, 1) := by decide +kernel
theorem dL_isWell_458 : decode cL_isWell 458 = .ok (.iload_n 3, 1) := by decide +kernel
theorem dL_isWell_459 : decode cL_isWell 459 = .ok (.iconst 2, 1) := by decide +kernel
theorem dL_isWell_460 : decode cL_isWell 460 = .ok (.invokevirtual 15, 3) := by decide +kernel
theorem dL_isWell_463 : decode cL_isWell 463 = .ok (.bipush 32, 2) := by decide +kernel
theorem dL_isWell_465 : decode cL_isWell 465 = .ok (.if_icmp .gt 89, 3) := by decide +kernel
theorem dL_isWell_468 : decode cL_isWell 468 = .ok (.aload_n 0, 1) := by decide +kernel
theorem dL_isWell_469 : decode cL_isWell 469 = .ok (.iload_n 3, 1) := by decide +kernel
theorem dL_isWell_470 : decode cL_isWell 470 = .ok (.iconst 4, 1) := by decide +kernel
theorem dL_isWell_471 : decode cL_isWell 471 = .ok (.invokevirtual 15, 3) := by decide +kernel
theorem dL_isWell_474 : decode cL_isWell 474 = .ok (.iconst 1, 1) := by decide +kernel
theorem dL_isWell_475 : decode cL_isWell 475 = .ok (.if_icmp .eq 13, 3) := by decide +kernel
theorem dL_isWell_478 : decode cL_isWell 478 = .ok (.aload_n 0, 1) := by decide +kernel
theorem dL_isWell_479 : decode cL_isWell 479 = .ok (.iload_n 3, 1) := by decide +kernel
theorem dL_isWell_480 : decode cL_isWell 480 = .ok (.bipush 11, 2) := by decide +kernel
theorem dL_isWell_482 : decode cL_isWell 482 = .ok (.invokevirtual 15, 3) := by decide +kernel
theorem dL_isWell_485 : decode cL_isWell 485 = .ok (.ifCond .ne 69, 3) := by decide +kernel
theorem dL_isWell_488 : decode cL_isWell 488 = .ok (.aload_n 0, 1) := by decide +kernel
theorem dL_isWell_489 : decode cL_isWell 489 = .ok (.iload_n 3, 1) := by decide +kernel
theorem dL_isWell_490 : decode cL_isWell 490 = .ok (.bipush 11, 2) := by decide +kernel
theorem dL_isWell_492 : decode cL_isWell 492 = .ok (.invokevirtual 15, 3) := by decide +kernel
theorem dL_isWell_495 : decode cL_isWell 495 = .ok (.aload_n 0, 1) := by decide +kernel
theorem dL_isWell_496 : decode cL_isWell 496 = .ok (.iload_n 3, 1) := by decide +kernel
theorem dL_isWell_497 : decode cL_isWell 497 = .ok (.bipush 7, 2) := by decide +kernel
theorem dL_isWell_499 : decode cL_isWell 499 = .ok (.invokevirtual 15, 3) := by decide +kernel
theorem dL_isWell_502 : decode cL_isWell 502 = .ok (.if_icmp .gt 52, 3) := by decide +kernel
theorem dL_isWell_505 : decode cL_isWell 505 = .ok (.aload_n 0, 1) := by decide +kernel
theorem dL_isWell_506 : decode cL_isWell 506 = .ok (.iload_n 3, 1) := by decide +kernel
theorem dL_isWell_507 : decode cL_isWell 507 = .ok (.invokevirtual 67, 3) := by decide +kernel
theorem dL_isWell_510 : decode cL_isWell 510 = .ok (.iconst 3, 1) := by decide +kernel
theorem dL_isWell_511 : decode cL_isWell 511 = .ok (.if_icmp .ne 7, 3) := by decide +kernel
theorem dL_isWell_514 : decode cL_isWell 514 = .ok (.iconst 1, 1) := by decide +kernel
theorem dL_isWell_515 : decode cL_isWell 515 = .ok (.goto 4, 3) := by decide +kernel
theorem dL_isWell_518 : decode cL_isWell 518 = .ok (.iconst 0, 1) := by decide +kernel
theorem dL_isWell_519 : decode cL_isWell 519 = .ok (.aload_n 0, 1) := by decide +kernel
theorem dL_isWell_520 : decode cL_isWell 520 = .ok (.iload_n 3, 1) := by decide +kernel
theorem dL_isWell_521 : decode cL_isWell 521 = .ok (.iconst 4, 1) := by decide +kernel
theorem dL_isWell_522 : decode cL_isWell 522 = .ok (.invokevirtual 15, 3) := by decide +kernel
theorem dL_isWell_525 : decode cL_isWell 525 = .ok (.ifCond .ne 21, 3) := by decide +kernel
theorem dL_isWell_528 : decode cL_isWell 528 = .ok (.aload_n 0, 1) := by decide +kernel
theorem dL_isWell_529 : decode cL_isWell 529 = .ok (.iload_n 3, 1) := by decide +kernel
theorem dL_isWell_530 : decode cL_isWell 530 = .ok (.iconst 5, 1) := by decide +kernel
theorem dL_isWell_531 : decode cL_isWell 531 = .ok (.invokevirtual 15, 3) := by decide +kernel
theorem dL_isWell_534 : decode cL_isWell 534 = .ok (.ifCond .ne 12, 3) := by decide +kernel
theorem dL_isWell_537 : decode cL_isWell 537 = .ok (.iload 6, 2) := by decide +kernel
theorem dL_isWell_539 : decode cL_isWell 539 = .ok (.ifCond .ne 7, 3) := by decide +kernel
theorem dL_isWell_542 : decode cL_isWell 542 = .ok (.iconst 1, 1) := by decide +kernel
theorem dL_isWell_543 : decode cL_isWell 543 = .ok (.goto 4, 3) := by decide +kernel
theorem dL_isWell_546 : decode cL_isWell 546 = .ok (.iconst 0, 1) := by decide +kernel
theorem dL_isWell_547 : decode cL_isWell 547 = .ok (.if_icmp .ne 7, 3) := by decide +kernel
theorem dL_isWell_550 : decode cL_isWell 550 = .ok (.iconst 1, 1) := by decide +kernel
theorem dL_isWell_551 : decode cL_isWell 551 = .ok (.goto 4, 3) := by decide +kernel
theorem dL_isWell_554 : decode cL_isWell 554 = .ok (.iconst 0, 1) := by decide +kernel
theorem dL_isWell_555 : decode cL_isWell 555 = .ok (.istore_n 1, 1) := by decide +kernel
theorem dL_isWell_556 : decode cL_isWell 556 = .ok (.iinc 3 1, 3) := by decide +kernel
theorem dL_isWell_559 : decode cL_isWell 559 = .ok (.goto (-381), 3) := by decide +kernel
theorem dL_isWell_562 : decode cL_isWell 562 = .ok (.iload_n 1, 1) := by decide +kernel
theorem dL_isWell_563 : decode cL_isWell 563 = .ok (.ireturn, 1) := by decide +kernel
theorem dL_law_0 : decode cL_law 0 = .ok (.new 10, 3) := by decide +kernel
theorem dL_law_3 : decode cL_law 3 = .ok (.dup, 1) := by decide +kernel
theorem dL_law_4 : decode cL_law 4 = .ok (.invokespecial 100, 3) := by decide +kernel
theorem dL_law_7 : decode cL_law 7 = .ok (.astore_n 1, 1) := by decide +kernel
theorem dL_law_8 : decode cL_law 8 = .ok (.new 10, 3) := by decide +kernel
theorem dL_law_11 : decode cL_law 11 = .ok (.dup, 1) := by decide +kernel
theorem dL_law_12 : decode cL_law 12 = .ok (.invokespecial 100, 3) := by decide +kernel
theorem dL_law_15 : decode cL_law 15 = .ok (.astore_n 2, 1) := by decide +kernel
theorem dL_law_16 : decode cL_law 16 = .ok (.iconst 1, 1) := by decide +kernel
theorem dL_law_17 : decode cL_law 17 = .ok (.istore_n 3, 1) := by decide +kernel
theorem dL_law_18 : decode cL_law 18 = .ok (.iconst 0, 1) := by decide +kernel
theorem dL_law_19 : decode cL_law 19 = .ok (.istore 4, 2) := by decide +kernel
theorem dL_law_21 : decode cL_law 21 = .ok (.iload 4, 2) := by decide +kernel
theorem dL_law_23 : decode cL_law 23 = .ok (.bipush 44, 2) := by decide +kernel
theorem dL_law_25 : decode cL_law 25 = .ok (.if_icmp .ge 57, 3) := by decide +kernel
theorem dL_law_28 : decode cL_law 28 = .ok (.iload_n 3, 1) := by decide +kernel
theorem dL_law_29 : decode cL_law 29 = .ok (.ifCond .eq 53, 3) := by decide +kernel
theorem dL_law_32 : decode cL_law 32 = .ok (.aload_n 1, 1) := by decide +kernel
theorem dL_law_33 : decode cL_law 33 = .ok (.aload_n 2, 1) := by decide +kernel
theorem dL_law_34 : decode cL_law 34 = .ok (.aload_n 0, 1) := by decide +kernel
theorem dL_law_35 : decode cL_law 35 = .ok (.iload 4, 2) := by decide +kernel
theorem dL_law_37 : decode cL_law 37 = .ok (.invokestatic 101, 3) := by decide +kernel
theorem dL_law_40 : decode cL_law 40 = .ok (.aload_n 0, 1) := by decide +kernel
theorem dL_law_41 : decode cL_law 41 = .ok (.iload 4, 2) := by decide +kernel
theorem dL_law_43 : decode cL_law 43 = .ok (.iconst 1, 1) := by decide +kernel
theorem dL_law_44 : decode cL_law 44 = .ok (.iadd, 1) := by decide +kernel
theorem dL_law_45 : decode cL_law 45 = .ok (.invokestatic 101, 3) := by decide +kernel
theorem dL_law_48 : decode cL_law 48 = .ok (.iconst 2, 1) := by decide +kernel
theorem dL_law_49 : decode cL_law 49 = .ok (.ishr, 1) := by decide +kernel
theorem dL_law_50 : decode cL_law 50 = .ok (.invokestatic 105, 3) := by decide +kernel
theorem dL_law_53 : decode cL_law 53 = .ok (.ifCond .eq 21, 3) := by decide +kernel
theorem dL_law_56 : decode cL_law 56 = .ok (.iload 4, 2) := by decide +kernel
theorem dL_law_58 : decode cL_law 58 = .ok (.iconst 4, 1) := by decide +kernel
theorem dL_law_59 : decode cL_law 59 = .ok (.irem, 1) := by decide +kernel
theorem dL_law_60 : decode cL_law 60 = .ok (.ifCond .gt 10, 3) := by decide +kernel
theorem dL_law_63 : decode cL_law 63 = .ok (.aload_n 1, 1) := by decide +kernel
theorem dL_law_64 : decode cL_law 64 = .ok (.invokestatic 109, 3) := by decide +kernel
theorem dL_law_67 : decode cL_law 67 = .ok (.ifCond .eq 7, 3) := by decide +kernel
theorem dL_law_70 : decode cL_law 70 = .ok (.iconst 1, 1) := by decide +kernel
theorem dL_law_71 : decode cL_law 71 = .ok (.goto 4, 3) := by decide +kernel
theorem dL_law_74 : decode cL_law 74 = .ok (.iconst 0, 1) := by decide +kernel
theorem dL_law_75 : decode cL_law 75 = .ok (.istore_n 3, 1) := by decide +kernel
theorem dL_law_76 : decode cL_law 76 = .ok (.iinc 4 1, 3) := by decide +kernel
theorem dL_law_79 : decode cL_law 79 = .ok (.goto (-58), 3) := by decide +kernel
theorem dL_law_82 : decode cL_law 82 = .ok (.iload_n 3, 1) := by decide +kernel
theorem dL_law_83 : decode cL_law 83 = .ok (.ifCond .eq 28, 3) := by decide +kernel
theorem dL_law_86 : decode cL_law 86 = .ok (.aload_n 1, 1) := by decide +kernel
theorem dL_law_87 : decode cL_law 87 = .ok (.invokestatic 109, 3) := by decide +kernel
theorem dL_law_90 : decode cL_law 90 = .ok (.ifCond .eq 21, 3) := by decide +kernel
theorem dL_law_93 : decode cL_law 93 = .ok (.aload_n 1, 1) := by decide +kernel
theorem dL_law_94 : decode cL_law 94 = .ok (.aload_n 2, 1) := by decide +kernel
theorem dL_law_95 : decode cL_law 95 = .ok (.aload_n 0, 1) := by decide +kernel
theorem dL_law_96 : decode cL_law 96 = .ok (.bipush 44, 2) := by decide +kernel
theorem dL_law_98 : decode cL_law 98 = .ok (.invokestatic 101, 3) := by decide +kernel
theorem dL_law_101 : decode cL_law 101 = .ok (.invokestatic 113, 3) := by decide +kernel
theorem dL_law_104 : decode cL_law 104 = .ok (.ifCond .eq 7, 3) := by decide +kernel
theorem dL_law_107 : decode cL_law 107 = .ok (.iconst 1, 1) := by decide +kernel
theorem dL_law_108 : decode cL_law 108 = .ok (.goto 4, 3) := by decide +kernel
theorem dL_law_111 : decode cL_law 111 = .ok (.iconst 0, 1) := by decide +kernel
theorem dL_law_112 : decode cL_law 112 = .ok (.ireturn, 1) := by decide +kernel
