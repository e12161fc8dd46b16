theorem dL_holds_100 : decode cL_holds 100 = .ok (.aload_n 0, 1) := by decide +kernel
theorem dL_holds_101 : decode cL_holds 101 = .ok (.iconst 4, 1) := by decide +kernel
theorem dL_holds_102 : decode cL_holds 102 = .ok (.iload 16, 2) := by decide +kernel
theorem dL_holds_104 : decode cL_holds 104 = .ok (.iconst 0, 1) := by decide +kernel
theorem dL_holds_105 : decode cL_holds 105 = .ok (.iconst 0, 1) := by decide +kernel
theorem dL_holds_106 : decode cL_holds 106 = .ok (.invokestatic 144, 3) := by decide +kernel
theorem dL_holds_109 : decode cL_holds 109 = .ok (.istore 17, 2) := by decide +kernel
theorem dL_holds_111 : decode cL_holds 111 = .ok (.aload_n 0, 1) := by decide +kernel
theorem dL_holds_112 : decode cL_holds 112 = .ok (.iload 16, 2) := by decide +kernel
theorem dL_holds_114 : decode cL_holds 114 = .ok (.iconst 0, 1) := by decide +kernel
theorem dL_holds_115 : decode cL_holds 115 = .ok (.invokestatic 152, 3) := by decide +kernel
theorem dL_holds_118 : decode cL_holds 118 = .ok (.lstore 18, 2) := by decide +kernel
theorem dL_holds_120 : decode cL_holds 120 = .ok (.aload_n 0, 1) := by decide +kernel
theorem dL_holds_121 : decode cL_holds 121 = .ok (.iload 16, 2) := by decide +kernel
theorem dL_holds_123 : decode cL_holds 123 = .ok (.iconst 1, 1) := by decide +kernel
theorem dL_holds_124 : decode cL_holds 124 = .ok (.invokestatic 152, 3) := by decide +kernel
theorem dL_holds_127 : decode cL_holds 127 = .ok (.lstore 20, 2) := by decide +kernel
theorem dL_holds_129 : decode cL_holds 129 = .ok (.iload_n 1, 1) := by decide +kernel
theorem dL_holds_130 : decode cL_holds 130 = .ok (.iload 16, 2) := by decide +kernel
theorem dL_holds_132 : decode cL_holds 132 = .ok (.invokestatic 170, 3) := by decide +kernel
theorem dL_holds_135 : decode cL_holds 135 = .ok (.lstore 22, 2) := by decide +kernel
theorem dL_holds_137 : decode cL_holds 137 = .ok (.aload_n 0, 1) := by decide +kernel
theorem dL_holds_138 : decode cL_holds 138 = .ok (.iconst 5, 1) := by decide +kernel
theorem dL_holds_139 : decode cL_holds 139 = .ok (.iload 16, 2) := by decide +kernel
theorem dL_holds_141 : decode cL_holds 141 = .ok (.iconst 0, 1) := by decide +kernel
theorem dL_holds_142 : decode cL_holds 142 = .ok (.iconst 0, 1) := by decide +kernel
theorem dL_holds_143 : decode cL_holds 143 = .ok (.invokestatic 144, 3) := by decide +kernel
theorem dL_holds_146 : decode cL_holds 146 = .ok (.istore 24, 2) := by decide +kernel
theorem dL_holds_148 : decode cL_holds 148 = .ok (.aload_n 0, 1) := by decide +kernel
theorem dL_holds_149 : decode cL_holds 149 = .ok (.iconst 4, 1) := by decide +kernel
theorem dL_holds_150 : decode cL_holds 150 = .ok (.iload 16, 2) := by decide +kernel
theorem dL_holds_152 : decode cL_holds 152 = .ok (.iconst 3, 1) := by decide +kernel
theorem dL_holds_153 : decode cL_holds 153 = .ok (.iconst 0, 1) := by decide +kernel
theorem dL_holds_154 : decode cL_holds 154 = .ok (.invokestatic 144, 3) := by decide +kernel
theorem dL_holds_157 : decode cL_holds 157 = .ok (.istore 25, 2) := by decide +kernel
theorem dL_holds_159 : decode cL_holds 159 = .ok (.iload 9, 2) := by decide +kernel
theorem dL_holds_161 : decode cL_holds 161 = .ok (.iload 24, 2) := by decide +kernel
theorem dL_holds_163 : decode cL_holds 163 = .ok (.ifCond .ne 7, 3) := by decide +kernel
theorem dL_holds_166 : decode cL_holds 166 = .ok (.iconst 1, 1) := by decide +kernel
theorem dL_holds_167 : decode cL_holds 167 = .ok (.goto 4, 3) := by decide +kernel
theorem dL_holds_170 : decode cL_holds 170 = .ok (.iconst 0, 1) := by decide +kernel
theorem dL_holds_171 : decode cL_holds 171 = .ok (.iadd, 1) := by decide +kernel
theorem dL_holds_172 : decode cL_holds 172 = .ok (.istore 9, 2) := by decide +kernel
theorem dL_holds_174 : decode cL_holds 174 = .ok (.aload_n 0, 1) := by decide +kernel
theorem dL_holds_175 : decode cL_holds 175 = .ok (.bipush 11, 2) := by decide +kernel
theorem dL_holds_177 : decode cL_holds 177 = .ok (.iload 16, 2) := by decide +kernel
theorem dL_holds_179 : decode cL_holds 179 = .ok (.iconst 0, 1) := by decide +kernel
theorem dL_holds_180 : decode cL_holds 180 = .ok (.iconst 0, 1) := by decide +kernel
theorem dL_holds_181 : decode cL_holds 181 = .ok (.invokestatic 144, 3) := by decide +kernel
theorem dL_holds_184 : decode cL_holds 184 = .ok (.istore 26, 2) := by decide +kernel
theorem dL_holds_186 : decode cL_holds 186 = .ok (.iload 26, 2) := by decide +kernel
theorem dL_holds_188 : decode cL_holds 188 = .ok (.iload 13, 2) := by decide +kernel
theorem dL_holds_190 : decode cL_holds 190 = .ok (.if_icmp .le 8, 3) := by decide +kernel
theorem dL_holds_193 : decode cL_holds 193 = .ok (.iload 16, 2) := by decide +kernel
theorem dL_holds_195 : decode cL_holds 195 = .ok (.goto 5, 3) := by decide +kernel
theorem dL_holds_198 : decode cL_holds 198 = .ok (.iload 12, 2) := by decide +kernel
theorem dL_holds_200 : decode cL_holds 200 = .ok (.istore 12, 2) := by decide +kernel
theorem dL_holds_202 : decode cL_holds 202 = .ok (.iload 26, 2) := by decide +kernel
theorem dL_holds_204 : decode cL_holds 204 = .ok (.iload 13, 2) := by decide +kernel
theorem dL_holds_206 : decode cL_holds 206 = .ok (.if_icmp .le 8, 3) := by decide +kernel
theorem dL_holds_209 : decode cL_holds 209 = .ok (.iload 26, 2) := by decide +kernel
theorem dL_holds_211 : decode cL_holds 211 = .ok (.goto 5, 3) := by decide +kernel
theorem dL_holds_214 : decode cL_holds 214 = .ok (.iload 13, 2) := by decide +kernel
theorem dL_holds_216 : decode cL_holds 216 = .ok (.istore 13, 2) := by decide +kernel
theorem dL_holds_218 : decode cL_holds 218 = .ok (.iload 17, 2) := by decide +kernel
theorem dL_holds_220 : decode cL_holds 220 = .ok (.iconst (-1), 1) := by decide +kernel
theorem dL_holds_221 : decode cL_holds 221 = .ok (.if_icmp .ne 191, 3) := by decide +kernel
theorem dL_holds_224 : decode cL_holds 224 = .ok (.iload 10, 2) := by decide +kernel
theorem dL_holds_226 : decode cL_holds 226 = .ok (.iload 25, 2) := by decide +kernel
theorem dL_holds_228 : decode cL_holds 228 = .ok (.iconst 2, 1) := by decide +kernel
theorem dL_holds_229 : decode cL_holds 229 = .ok (.if_icmp .ne 7, 3) := by decide +kernel
theorem dL_holds_232 : decode cL_holds 232 = .ok (.iconst 1, 1) := by decide +kernel
theorem dL_holds_233 : decode cL_holds 233 = .ok (.goto 4, 3) := by decide +kernel
theorem dL_holds_236 : decode cL_holds 236 = .ok (.iconst 0, 1) := by decide +kernel
theorem dL_holds_237 : decode cL_holds 237 = .ok (.iadd, 1) := by decide +kernel
theorem dL_holds_238 : decode cL_holds 238 = .ok (.istore 10, 2) := by decide +kernel
theorem dL_holds_240 : decode cL_holds 240 = .ok (.iload 11, 2) := by decide +kernel
theorem dL_holds_242 : decode cL_holds 242 = .ok (.iload 25, 2) := by decide +kernel
theorem dL_holds_244 : decode cL_holds 244 = .ok (.iconst 1, 1) := by decide +kernel
theorem dL_holds_245 : decode cL_holds 245 = .ok (.if_icmp .ne 7, 3) := by decide +kernel
theorem dL_holds_248 : decode cL_holds 248 = .ok (.iconst 1, 1) := by decide +kernel
theorem dL_holds_249 : decode cL_holds 249 = .ok (.goto 4, 3) := by decide +kernel
theorem dL_holds_252 : decode cL_holds 252 = .ok (.iconst 0, 1) := by decide +kernel
theorem dL_holds_253 : decode cL_holds 253 = .ok (.iadd, 1) := by decide +kernel
theorem dL_holds_254 : decode cL_holds 254 = .ok (.istore 11, 2) := by decide +kernel
theorem dL_holds_256 : decode cL_holds 256 = .ok (.lload_n 3, 1) := by decide +kernel
theorem dL_holds_257 : decode cL_holds 257 = .ok (.lload 5, 2) := by decide +kernel
theorem dL_holds_259 : decode cL_holds 259 = .ok (.lor, 1) := by decide +kernel
theorem dL_holds_260 : decode cL_holds 260 = .ok (.iload 16, 2) := by decide +kernel
theorem dL_holds_262 : decode cL_holds 262 = .ok (.lshr, 1) := by decide +kernel
theorem dL_holds_263 : decode cL_holds 263 = .ok (.lconst 1, 1) := by decide +kernel
theorem dL_holds_264 : decode cL_holds 264 = .ok (.land, 1) := by decide +kernel
theorem dL_holds_265 : decode cL_holds 265 = .ok (.lconst 0, 1) := by decide +kernel
theorem dL_holds_266 : decode cL_holds 266 = .ok (.lcmp, 1) := by decide +kernel
theorem dL_holds_267 : decode cL_holds 267 = .ok (.ifCond .ne 139, 3) := by decide +kernel
theorem dL_holds_270 : decode cL_holds 270 = .ok (.lload 18, 2) := by decide +kernel
theorem dL_holds_272 : decode cL_holds 272 = .ok (.lconst 0, 1) := by decide +kernel
theorem dL_holds_273 : decode cL_holds 273 = .ok (.lcmp, 1) := by decide +kernel
theorem dL_holds_274 : decode cL_holds 274 = .ok (.ifCond .ne 132, 3) := by decide +kernel
theorem dL_holds_277 : decode cL_holds 277 = .ok (.lload 20, 2) := by decide +kernel
theorem dL_holds_279 : decode cL_holds 279 = .ok (.lconst 0, 1) := by decide +kernel
theorem dL_holds_280 : decode cL_holds 280 = .ok (.lcmp, 1) := by decide +kernel
theorem dL_holds_281 : decode cL_holds 281 = .ok (.ifCond .ne 125, 3) := by decide +kernel
theorem dL_holds_284 : decode cL_holds 284 = .ok (.aload_n 0, 1) := by decide +kernel
theorem dL_holds_285 : decode cL_holds 285 = .ok (.iconst 4, 1) := by decide +kernel
theorem dL_holds_286 : decode cL_holds 286 = .ok (.iload 16, 2) := by decide +kernel
theorem dL_holds_288 : decode cL_holds 288 = .ok (.iconst 4, 1) := by decide +kernel
theorem dL_holds_289 : decode cL_holds 289 = .ok (.iconst 0, 1) := by decide +kernel
theorem dL_holds_290 : decode cL_holds 290 = .ok (.invokestatic 144, 3) := by decide +kernel
theorem dL_holds_293 : decode cL_holds 293 = .ok (.ifCond .le 113, 3) := by decide +kernel
theorem dL_holds_296 : decode cL_holds 296 = .ok (.iload 25, 2) := by decide +kernel
theorem dL_holds_298 : decode cL_holds 298 = .ok (.ifCond .le 7, 3) := by decide +kernel
theorem dL_holds_301 : decode cL_holds 301 = .ok (.iconst 1, 1) := by decide +kernel
theorem dL_holds_302 : decode cL_holds 302 = .ok (.goto 4, 3) := by decide +kernel
theorem dL_holds_305 : decode cL_holds 305 = .ok (.iconst 0, 1) := by decide +kernel
theorem dL_holds_306 : decode cL_holds 306 = .ok (.lload 22, 2) := by decide +kernel
theorem dL_holds_308 : decode cL_holds 308 = .ok (.lload_n 3, 1) := by decide +kernel
theorem dL_holds_309 : decode cL_holds 309 = .ok (.ldc2_w 173, 3) := by decide +kernel
theorem dL_holds_312 : decode cL_holds 312 = .ok (.lxor, 1) := by decide +kernel
theorem dL_holds_313 : decode cL_holds 313 = .ok (.land, 1) := by decide +kernel
theorem dL_holds_314 : decode cL_holds 314 = .ok (.lconst 0, 1) := by decide +kernel
theorem dL_holds_315 : decode cL_holds 315 = .ok (.lcmp, 1) := by decide +kernel
theorem dL_holds_316 : decode cL_holds 316 = .ok (.ifCond .eq 17, 3) := by decide +kernel
theorem dL_holds_319 : decode cL_holds 319 = .ok (.lload 22, 2) := by decide +kernel
theorem dL_holds_321 : decode cL_holds 321 = .ok (.lload 5, 2) := by decide +kernel
theorem dL_holds_323 : decode cL_holds 323 = .ok (.ldc2_w 173, 3) := by decide +kernel
theorem dL_holds_326 : decode cL_holds 326 = .ok (.lxor, 1) := by decide +kernel
theorem dL_holds_327 : decode cL_holds 327 = .ok (.land, 1) := by decide +kernel
theorem dL_holds_328 : decode cL_holds 328 = .ok (.lconst 0, 1) := by decide +kernel
theorem dL_holds_329 : decode cL_holds 329 = .ok (.lcmp, 1) := by decide +kernel
theorem dL_holds_330 : decode cL_holds 330 = .ok (.ifCond .ne 7, 3) := by decide +kernel
theorem dL_holds_333 : decode cL_holds 333 = .ok (.iconst 1, 1) := by decide +kernel
theorem dL_holds_334 : decode cL_holds 334 = .ok (.goto 4, 3) := by decide +kernel
theorem dL_holds_337 : decode cL_holds 337 = .ok (.iconst 0, 1) := by decide +kernel
theorem dL_holds_338 : decode cL_holds 338 = .ok (.if_icmp .ne 68, 3) := by decide +kernel
theorem dL_holds_341 : decode cL_holds 341 = .ok (.iload 24, 2) := by decide +kernel
theorem dL_holds_343 : decode cL_holds 343 = .ok (.iconst 1, 1) := by decide +kernel
theorem dL_holds_344 : decode cL_holds 344 = .ok (.if_icmp .eq 62, 3) := by decide +kernel
theorem dL_holds_347 : decode cL_holds 347 = .ok (.iload 24, 2) := by decide +kernel
theorem dL_holds_349 : decode cL_holds 349 = .ok (.ifCond .ne 7, 3) := by decide +kernel
theorem dL_holds_352 : decode cL_holds 352 = .ok (.iconst 1, 1) := by decide +kernel
theorem dL_holds_353 : decode cL_holds 353 = .ok (.goto 4, 3) := by decide +kernel
theorem dL_holds_356 : decode cL_holds 356 = .ok (.iconst 0, 1) := by decide +kernel
theorem dL_holds_357 : decode cL_holds 357 = .ok (.iload 26, 2) := by decide +kernel
theorem dL_holds_359 : decode cL_holds 359 = .ok (.iconst (-1), 1) := by decide +kernel
theorem dL_holds_360 : decode cL_holds 360 = .ok (.if_icmp .eq 7, 3) := by decide +kernel
theorem dL_holds_363 : decode cL_holds 363 = .ok (.iconst 1, 1) := by decide +kernel
theorem dL_holds_364 : decode cL_holds 364 = .ok (.goto 4, 3) := by decide +kernel
theorem dL_holds_367 : decode cL_holds 367 = .ok (.iconst 0, 1) := by decide +kernel
theorem dL_holds_368 : decode cL_holds 368 = .ok (.if_icmp .ne 38, 3) := by decide +kernel
theorem dL_holds_371 : decode cL_holds 371 = .ok (.iload 24, 2) := by decide +kernel
theorem dL_holds_373 : decode cL_holds 373 = .ok (.ifCond .ne 7, 3) := by decide +kernel
theorem dL_holds_376 : decode cL_holds 376 = .ok (.iconst 1, 1) := by decide +kernel
theorem dL_holds_377 : decode cL_holds 377 = .ok (.goto 4, 3) := by decide +kernel
theorem dL_holds_380 : decode cL_holds 380 = .ok (.iconst 0, 1) := by decide +kernel
theorem dL_holds_381 : decode cL_holds 381 = .ok (.aload_n 0, 1) := by decide +kernel
theorem dL_holds_382 : decode cL_holds 382 = .ok (.bipush 11, 2) := by decide +kernel
theorem dL_holds_384 : decode cL_holds 384 = .ok (.iload 16, 2) := by decide +kernel
theorem dL_holds_386 : decode cL_holds 386 = .ok (.iconst 1, 1) := by decide +kernel
theorem dL_holds_387 : decode cL_holds 387 = .ok (.iconst 0, 1) := by decide +kernel
theorem dL_holds_388 : decode cL_holds 388 = .ok (.invokestatic 144, 3) := by decide +kernel
theorem dL_holds_391 : decode cL_holds 391 = .ok (.ifCond .le 7, 3) := by decide +kernel
theorem dL_holds_394 : decode cL_holds 394 = .ok (.iconst 1, 1) := by decide +kernel
theorem dL_holds_395 : decode cL_holds 395 = .ok (.goto 4, 3) := by decide +kernel
theorem dL_holds_398 : decode cL_holds 398 = .ok (.iconst 0, 1) := by decide +kernel
theorem dL_holds_399 : decode cL_holds 399 = .ok (.if_icmp .ne 7, 3) := by decide +kernel
theorem dL_holds_402 : decode cL_holds 402 = .ok (.iconst 1, 1) := by decide +kernel
theorem dL_holds_403 : decode cL_holds 403 = .ok (.goto 4, 3) := by decide +kernel
theorem dL_holds_406 : decode cL_holds 406 = .ok (.iconst 0, 1) := by decide +kernel
theorem dL_holds_407 : decode cL_holds 407 = .ok (.istore 15, 2) := by decide +kernel
theorem dL_holds_409 : decode cL_holds 409 = .ok (.goto 316, 3) := by decide +kernel
theorem dL_holds_412 : decode cL_holds 412 = .ok (.iload 17, 2) := by decide +kernel
theorem dL_holds_414 : decode cL_holds 414 = .ok (.ifCond .ne 7, 3) := by decide +kernel
theorem dL_holds_417 : decode cL_holds 417 = .ok (.lload_n 3, 1) := by decide +kernel
theorem dL_holds_418 : decode cL_holds 418 = .ok (.goto 5, 3) := by decide +kernel
theorem dL_holds_421 : decode cL_holds 421 = .ok (.lload 5, 2) := by decide +kernel
theorem dL_holds_423 : decode cL_holds 423 = .ok (.lstore 27, 2) := by decide +kernel
theorem dL_holds_425 : decode cL_holds 425 = .ok (.lload 18, 2) := by decide +kernel
theorem dL_holds_427 : decode cL_holds 427 = .ok (.lconst 1, 1) := by decide +kernel
theorem dL_holds_428 : decode cL_holds 428 = .ok (.iload 16, 2) := by decide +kernel
theorem dL_holds_430 : decode cL_holds 430 = .ok (.lshl, 1) := by decide +kernel
theorem dL_holds_431 : decode cL_holds 431 = .ok (.lconst 1, 1) := by decide +kernel
theorem dL_holds_432 : decode cL_holds 432 = .ok (.lsub, 1) := by decide +kernel
theorem dL_holds_433 : decode cL_holds 433 = .ok (.land, 1) := by decide +kernel
theorem dL_holds_434 : decode cL_holds 434 = .ok (.lconst 0, 1) := by decide +kernel
theorem dL_holds_435 : decode cL_holds 435 = .ok (.lcmp, 1) := by decide +kernel
theorem dL_holds_436 : decode cL_holds 436 = .ok (.ifCond .ne 7, 3) := by decide +kernel
theorem dL_holds_439 : decode cL_holds 439 = .ok (.iconst 1, 1) := by decide +kernel
theorem dL_holds_440 : decode cL_holds 440 = .ok (.goto 4, 3) := by decide +kernel
theorem dL_holds_443 : decode cL_holds 443 = .ok (.iconst 0, 1) := by decide +kernel
theorem dL_holds_444 : decode cL_holds 444 = .ok (.istore 29, 2) := by decide +kernel
theorem dL_holds_446 : decode cL_holds 446 = .ok (.iload 7, 2) := by decide +kernel
theorem dL_holds_448 : decode cL_holds 448 = .ok (.iload 29, 2) := by decide +kernel
theorem dL_holds_450 : decode cL_holds 450 = .ok (.ifCond .eq 7, 3) := by decide +kernel
theorem dL_holds_453 : decode cL_holds 453 = .ok (.iconst 1, 1) := by decide +kernel
theorem dL_holds_454 : decode cL_holds 454 = .ok (.goto 4, 3) := by decide +kernel
theorem dL_holds_457 : decode cL_holds 457 = .ok (.iconst 0, 1) := by decide +kernel
theorem dL_holds_458 : decode cL_holds 458 = .ok (.iadd, 1) := by decide +kernel
theorem dL_holds_459 : decode cL_holds 459 = .ok (.istore 7, 2) := by decide +kernel
theorem dL_holds_461 : decode cL_holds 461 = .ok (.iload 8, 2) := by decide +kernel
theorem dL_holds_463 : decode cL_holds 463 = .ok (.iload 29, 2) := by decide +kernel
theorem dL_holds_465 : decode cL_holds 465 = .ok (.ifCond .eq 16, 3) := by decide +kernel
theorem dL_holds_468 : decode cL_holds 468 = .ok (.lload 20, 2) := by decide +kernel
theorem dL_holds_470 : decode cL_holds 470 = .ok (.invokestatic 166, 3) := by decide +kernel
theorem dL_holds_473 : decode cL_holds 473 = .ok (.iconst 1, 1) := by decide +kernel
theorem dL_holds_474 : decode cL_holds 474 = .ok (.if_icmp .ne 7, 3) := by decide +kernel
theorem dL_holds_477 : decode cL_holds 477 = .ok (.iconst 1, 1) := by decide +kernel
theorem dL_holds_478 : decode cL_holds 478 = .ok (.goto 4, 3) := by decide +kernel
theorem dL_holds_481 : decode cL_holds 481 = .ok (.iconst 0, 1) := by decide +kernel
theorem dL_holds_482 : decode cL_holds 482 = .ok (.iadd, 1) := by decide +kernel
theorem dL_holds_483 : decode cL_holds 483 = .ok (.istore 8, 2) := by decide +kernel
theorem dL_holds_485 : decode cL_holds 485 = .ok (.lload 27, 2) := by decide +kernel
theorem dL_holds_487 : decode cL_holds 487 = .ok (.iload 16, 2) := by decide +kernel
theorem dL_holds_489 : decode cL_holds 489 = .ok (.lshr, 1) := by decide +kernel
theorem dL_holds_490 : decode cL_holds 490 = .ok (.lconst 1, 1) := by decide +kernel
theorem dL_holds_491 : decode cL_holds 491 = .ok (.land, 1) := by decide +kernel
theorem dL_holds_492 : decode cL_holds 492 = .ok (.lconst 1, 1) := by decide +kernel
theorem dL_holds_493 : decode cL_holds 493 = .ok (.lcmp, 1) := by decide +kernel
theorem dL_holds_494 : decode cL_holds 494 = .ok (.ifCond .ne 228, 3) := by decide +kernel
theorem dL_holds_497 : decode cL_holds 497 = .ok (.lload 18, 2) := by decide +kernel
theorem dL_holds_499 : decode cL_holds 499 = .ok (.iload 16, 2) := by decide +kernel
theorem dL_holds_501 : decode cL_holds 501 = .ok (.lshr, 1) := by decide +kernel
theorem dL_holds_502 : decode cL_holds 502 = .ok (.lconst 1, 1) := by decide +kernel
theorem dL_holds_503 : decode cL_holds 503 = .ok (.land, 1) := by decide +kernel
theorem dL_holds_504 : decode cL_holds 504 = .ok (.lconst 1, 1) := by decide +kernel
theorem dL_holds_505 : decode cL_holds 505 = .ok (.lcmp, 1) := by decide +kernel
theorem dL_holds_506 : decode cL_holds 506 = .ok (.ifCond .ne 216, 3) := by decide +kernel
theorem dL_holds_509 : decode cL_holds 509 = .ok (.lload 18, 2) := by decide +kernel
theorem dL_holds_511 : decode cL_holds 511 = .ok (.lload 27, 2) := by decide +kernel
theorem dL_holds_513 : decode cL_holds 513 = .ok (.ldc2_w 173, 3) := by decide +kernel
theorem dL_holds_516 : decode cL_holds 516 = .ok (.lxor, 1) := by decide +kernel
theorem dL_holds_517 : decode cL_holds 517 = .ok (.land, 1) := by decide +kernel
theorem dL_holds_518 : decode cL_holds 518 = .ok (.lconst 0, 1) := by decide +kernel
theorem dL_holds_519 : decode cL_holds 519 = .ok (.lcmp, 1) := by decide +kernel
theorem dL_holds_520 : decode cL_holds 520 = .ok (.ifCond .ne 202, 3) := by decide +kernel
theorem dL_holds_523 : decode cL_holds 523 = .ok (.lload 22, 2) := by decide +kernel
theorem dL_holds_525 : decode cL_holds 525 = .ok (.lload 27, 2) := by decide +kernel
theorem dL_holds_527 : decode cL_holds 527 = .ok (.land, 1) := by decide +kernel
theorem dL_holds_528 : decode cL_holds 528 = .ok (.lload 18, 2) := by decide +kernel
theorem dL_holds_530 : decode cL_holds 530 = .ok (.ldc2_w 173, 3) := by decide +kernel
theorem dL_holds_533 : decode cL_holds 533 = .ok (.lxor, 1) := by decide +kernel
theorem dL_holds_534 : decode cL_holds 534 = .ok (.land, 1) := by decide +kernel
theorem dL_holds_535 : decode cL_holds 535 = .ok (.lconst 0, 1) := by decide +kernel
theorem dL_holds_536 : decode cL_holds 536 = .ok (.lcmp, 1) := by decide +kernel
theorem dL_holds_537 : decode cL_holds 537 = .ok (.ifCond .ne 185, 3) := by decide +kernel
theorem dL_holds_540 : decode cL_holds 540 = .ok (.lload 22, 2) := by decide +kernel
theorem dL_holds_542 : decode cL_holds 542 = .ok (.lload_n 3, 1) := by decide +kernel
theorem dL_holds_543 : decode cL_holds 543 = .ok (.lload 5, 2) := by decide +kernel
theorem dL_holds_545 : decode cL_holds 545 = .ok (.lor, 1) := by decide +kernel
theorem dL_holds_546 : decode cL_holds 546 = .ok (.ldc2_w 173, 3) := by decide +kernel
theorem dL_holds_549 : decode cL_holds 549 = .ok (.lxor, 1) := by decide +kernel
theorem dL_holds_550 : decode cL_holds 550 = .ok (.land, 1) := by decide +kernel
theorem dL_holds_551 : decode cL_holds 551 = .ok (.lload 20, 2) := by decide +kernel
theorem dL_holds_553 : decode cL_holds 553 = .ok (.ldc2_w 173, 3) := by decide +kernel
theorem dL_holds_556 : decode cL_holds 556 = .ok (.lxor, 1) := by decide +kernel
theorem dL_holds_557 : decode cL_holds 557 = .ok (.land, 1) := by decide +kernel
theorem dL_holds_558 : decode cL_holds 558 = .ok (.lconst 0, 1) := by decide +kernel
theorem dL_holds_559 : decode cL_holds 559 = .ok (.lcmp, 1) := by decide +kernel
theorem dL_holds_560 : decode cL_holds 560 = .ok (.ifCond .ne 162, 3) := by decide +kernel
theorem dL_holds_563 : decode cL_holds 563 = .ok (.lload 20, 2) := by decide +kernel
theorem dL_holds_565 : decode cL_holds 565 = .ok (.lload_n 3, 1) := by decide +kernel
theorem dL_holds_566 : decode cL_holds 566 = .ok (.lload 5, 2) := by decide +kernel
theorem dL_holds_568 : decode cL_holds 568 = .ok (.lor, 1) := by decide +kernel
theorem dL_holds_569 : decode cL_holds 569 = .ok (.land, 1) := by decide +kernel
theorem dL_holds_570 : decode cL_holds 570 = .ok (.lconst 0, 1) := by decide +kernel
theorem dL_holds_571 : decode cL_holds 571 = .ok (.lcmp, 1) := by decide +kernel
theorem dL_holds_572 : decode cL_holds 572 = .ok (.ifCond .ne 150, 3) := by decide +kernel
theorem dL_holds_575 : decode cL_holds 575 = .ok (.lload 20, 2) := by decide +kernel
theorem dL_holds_577 : decode cL_holds 577 = .ok (.lconst 0, 1) := by decide +kernel
theorem dL_holds_578 : decode cL_holds 578 = .ok (.lcmp, 1) := by decide +kernel
theorem dL_holds_579 : decode cL_holds 579 = .ok (.ifCond .eq 143, 3) := by decide +kernel
theorem dL_holds_582 : decode cL_holds 582 = .ok (.aload_n 0, 1) := by decide +kernel
theorem dL_holds_583 : decode cL_holds 583 = .ok (.iconst 4, 1) := by decide +kernel
theorem dL_holds_584 : decode cL_holds 584 = .ok (.iload 16, 2) := by decide +kernel
theorem dL_holds_586 : decode cL_holds 586 = .ok (.iconst 1, 1) := by decide +kernel
theorem dL_holds_587 : decode cL_holds 587 = .ok (.iconst 0, 1) := by decide +kernel
theorem dL_holds_588 : decode cL_holds 588 = .ok (.invokestatic 144, 3) := by decide +kernel
theorem dL_holds_591 : decode cL_holds 591 = .ok (.lload 18, 2) := by decide +kernel
theorem dL_holds_593 : decode cL_holds 593 = .ok (.invokestatic 166, 3) := by decide +kernel
theorem dL_holds_596 : decode cL_holds 596 = .ok (.if_icmp .ne 126, 3) := by decide +kernel
theorem dL_holds_599 : decode cL_holds 599 = .ok (.aload_n 0, 1) := by decide +kernel
theorem dL_holds_600 : decode cL_holds 600 = .ok (.iconst 4, 1) := by decide +kernel
theorem dL_holds_601 : decode cL_holds 601 = .ok (.iload 16, 2) := by decide +kernel
theorem dL_holds_603 : decode cL_holds 603 = .ok (.iconst 2, 1) := by decide +kernel
theorem dL_holds_604 : decode cL_holds 604 = .ok (.iconst 0, 1) := by decide +kernel
theorem dL_holds_605 : decode cL_holds 605 = .ok (.invokestatic 144, 3) := by decide +kernel
theorem dL_holds_608 : decode cL_holds 608 = .ok (.lload 20, 2) := by decide +kernel
theorem dL_holds_610 : decode cL_holds 610 = .ok (.invokestatic 166, 3) := by decide +kernel
theorem dL_holds_613 : decode cL_holds 613 = .ok (.if_icmp .ne 109, 3) := by decide +kernel
theorem dL_holds_616 : decode cL_holds 616 = .ok (.aload_n 0, 1) := by decide +kernel
theorem dL_holds_617 : decode cL_holds 617 = .ok (.iconst 4, 1) := by decide +kernel
theorem dL_holds_618 : decode cL_holds 618 = .ok (.iload 16, 2) := by decide +kernel
theorem dL_holds_620 : decode cL_holds 620 = .ok (.iconst 4, 1) := by decide +kernel
theorem dL_holds_621 : decode cL_holds 621 = .ok (.iconst 0, 1) := by decide +kernel
theorem dL_holds_622 : decode cL_holds 622 = .ok (.invokestatic 144, 3) := by decide +kernel
theorem dL_holds_625 : decode cL_holds 625 = .ok (.ifCond .ne 97, 3) := by decide +kernel
theorem dL_holds_628 : decode cL_holds 628 = .ok (.iload 25, 2) := by decide +kernel
theorem dL_holds_630 : decode cL_holds 630 = .ok (.ifCond .ne 92, 3) := by decide +kernel
theorem dL_holds_633 : decode cL_holds 633 = .ok (.iload 24, 2) := by decide +kernel
theorem dL_holds_635 : decode cL_holds 635 = .ok (.iconst 1, 1) := by decide +kernel
theorem dL_holds_636 : decode cL_holds 636 = .ok (.if_icmp .ne 86, 3) := by decide +kernel
theorem dL_holds_639 : decode cL_holds 639 = .ok (.aload_n 0, 1) := by decide +kernel
theorem dL_holds_640 : decode cL_holds 640 = .ok (.iconst 4, 1) := by decide +kernel
theorem dL_holds_641 : decode cL_holds 641 = .ok (.iload 16, 2) := by decide +kernel
theorem dL_holds_643 : decode cL_holds 643 = .ok (.iconst 5, 1) := by decide +kernel
theorem dL_holds_644 : decode cL_holds 644 = .ok (.iconst 0, 1) := by decide +kernel
theorem dL_holds_645 : decode cL_holds 645 = .ok (.invokestatic 144, 3) := by decide +kernel
theorem dL_holds_648 : decode cL_holds 648 = .ok (.aload_n 0, 1) := by decide +kernel
theorem dL_holds_649 : decode cL_holds 649 = .ok (.iconst 3, 1) := by decide +kernel
theorem dL_holds_650 : decode cL_holds 650 = .ok (.iload 17, 2) := by decide +kernel
theorem dL_holds_652 : decode cL_holds 652 = .ok (.iconst 3, 1) := by decide +kernel
theorem dL_holds_653 : decode cL_holds 653 = .ok (.iconst 0, 1) := by decide +kernel
theorem dL_holds_654 : decode cL_holds 654 = .ok (.invokestatic 144, 3) := by decide +kernel
theorem dL_holds_657 : decode cL_holds 657 = .ok (.if_icmp .gt 65, 3) := by decide +kernel
theorem dL_holds_660 : decode cL_holds 660 = .ok (.lload 20, 2) := by decide +kernel
theorem dL_holds_662 : decode cL_holds 662 = .ok (.invokestatic 166, 3) := by decide +kernel
theorem dL_holds_665 : decode cL_holds 665 = .ok (.iconst 3, 1) := by decide +kernel
theorem dL_holds_666 : decode cL_holds 666 = .ok (.if_icmp .lt 30, 3) := by decide +kernel
theorem dL_holds_669 : decode cL_holds 669 = .ok (.aload_n 0, 1) := by decide +kernel
theorem dL_holds_670 : decode cL_holds 670 = .ok (.bipush 13, 2) := by decide +kernel
theorem dL_holds_672 : decode cL_holds 672 = .ok (.iload 16, 2) := by decide +kernel
theorem dL_holds_674 : decode cL_holds 674 = .ok (.iconst 0, 1) := by decide +kernel
theorem dL_holds_675 : decode cL_holds 675 = .ok (.iconst 0, 1) := by decide +kernel
theorem dL_holds_676 : decode cL_holds 676 = .ok (.invokestatic 144, 3) := by decide +kernel
theorem dL_holds_679 : decode cL_holds 679 = .ok (.iconst (-1), 1) := by decide +kernel
theorem dL_holds_680 : decode cL_holds 680 = .ok (.if_icmp .ne 42, 3) := by decide +kernel
theorem dL_holds_683 : decode cL_holds 683 = .ok (.aload_n 0, 1) := by decide +kernel
theorem dL_holds_684 : decode cL_holds 684 = .ok (.bipush 12, 2) := by decide +kernel
theorem dL_holds_686 : decode cL_holds 686 = .ok (.iload 16, 2) := by decide +kernel
theorem dL_holds_688 : decode cL_holds 688 = .ok (.iconst 0, 1) := by decide +kernel
theorem dL_holds_689 : decode cL_holds 689 = .ok (.iconst 0, 1) := by decide +kernel
theorem dL_holds_690 : decode cL_holds 690 = .ok (.invokestatic 144, 3) := by decide +kernel
theorem dL_holds_693 : decode cL_holds 693 = .ok (.ifCond .ne 29, 3) := by decide +kernel
theorem dL_holds_696 : decode cL_holds 696 = .ok (.lload 20, 2) := by decide +kernel
theorem dL_holds_698 : decode cL_holds 698 = .ok (.invokestatic 166, 3) := by decide +kernel
theorem dL_holds_701 : decode cL_holds 701 = .ok (.iconst 1, 1) := by decide +kernel
theorem dL_holds_702 : decode cL_holds 702 = .ok (.if_icmp .eq 16, 3) := by decide +kernel
theorem dL_holds_705 : decode cL_holds 705 = .ok (.aload_n 0, 1) := by decide +kernel
theorem dL_holds_706 : decode cL_holds 706 = .ok (.bipush 12, 2) := by decide +kernel
theorem dL_holds_708 : decode cL_holds 708 = .ok (.iload 16, 2) := by decide +kernel
theorem dL_holds_710 : decode cL_holds 710 = .ok (.iconst 1, 1) := by decide +kernel
theorem dL_holds_711 : decode cL_holds 711 = .ok (.iconst 0, 1) := by decide +kernel
theorem dL_holds_712 : decode cL_holds 712 = .ok (.invokestatic 144, 3) := by decide +kernel
theorem dL_holds_715 : decode cL_holds 715 = .ok (.ifCond .ne 7, 3) := by decide +kernel
theorem dL_holds_718 : decode cL_holds 718 = .ok (.iconst 1, 1) := by decide +kernel
theorem dL_holds_719 : decode cL_holds 719 = .ok (.goto 4, 3) := by decide +kernel
theorem dL_holds_722 : decode cL_holds 722 = .ok (.iconst 0, 1) := by decide +kernel
theorem dL_holds_723 : decode cL_holds 723 = .ok (.istore 15, 2) := by decide +kernel
theorem dL_holds_725 : decode cL_holds 725 = .ok (.iinc 16 1, 3) := by decide +kernel
theorem dL_holds_728 : decode cL_holds 728 = .ok (.goto (-639), 3) := by decide +kernel
theorem dL_holds_731 : decode cL_holds 731 = .ok (.iconst 0, 1) := by decide +kernel
theorem dL_holds_732 : decode cL_holds 732 = .ok (.istore 16, 2) := by decide +kernel
theorem dL_holds_734 : decode cL_holds 734 = .ok (.iload 16, 2) := by decide +kernel
theorem dL_holds_736 : decode cL_holds 736 = .ok (.iconst 2, 1) := by decide +kernel
theorem dL_holds_737 : decode cL_holds 737 = .ok (.if_icmp .ge 131, 3) := by decide +kernel
theorem dL_holds_740 : decode cL_holds 740 = .ok (.iload 15, 2) := by decide +kernel
theorem dL_holds_742 : decode cL_holds 742 = .ok (.ifCond .eq 126, 3) := by decide +kernel
theorem dL_holds_745 : decode cL_holds 745 = .ok (.iload 14, 2) := by decide +kernel
theorem dL_holds_747 : decode cL_holds 747 = .ok (.iload 16, 2) := by decide +kernel
theorem dL_holds_749 : decode cL_holds 749 = .ok (.ifCond .ne 20, 3) := by decide +kernel
theorem dL_holds_752 : decode cL_holds 752 = .ok (.aload_n 0, 1) := by decide +kernel
theorem dL_holds_753 : decode cL_holds 753 = .ok (.iconst 3, 1) := by decide +kernel
theorem dL_holds_754 : decode cL_holds 754 = .ok (.iload 16, 2) := by decide +kernel
theorem dL_holds_756 : decode cL_holds 756 = .ok (.iconst 2, 1) := by decide +kernel
theorem dL_holds_757 : decode cL_holds 757 = .ok (.iconst 0, 1) := by decide +kernel
theorem dL_holds_758 : decode cL_holds 758 = .ok (.invokestatic 144, 3) := by decide +kernel
theorem dL_holds_761 : decode cL_holds 761 = .ok (.lload_n 3, 1) := by decide +kernel
theorem dL_holds_762 : decode cL_holds 762 = .ok (.invokestatic 166, 3) := by decide +kernel
theorem dL_holds_765 : decode cL_holds 765 = .ok (.isub, 1) := by decide +kernel
theorem dL_holds_766 : decode cL_holds 766 = .ok (.goto 18, 3) := by decide +kernel
theorem dL_holds_769 : decode cL_holds 769 = .ok (.lload 5, 2) := by decide +kernel
theorem dL_holds_771 : decode cL_holds 771 = .ok (.invokestatic 166, 3) := by decide +kernel
theorem dL_holds_774 : decode cL_holds 774 = .ok (.aload_n 0, 1) := by decide +kernel
theorem dL_holds_775 : decode cL_holds 775 = .ok (.iconst 3, 1) := by decide +kernel
theorem dL_holds_776 : decode cL_holds 776 = .ok (.iload 16, 2) := by decide +kernel
theorem dL_holds_778 : decode cL_holds 778 = .ok (.iconst 2, 1) := by decide +kernel
theorem dL_holds_779 : decode cL_holds 779 = .ok (.iconst 0, 1) := by decide +kernel
theorem dL_holds_780 : decode cL_holds 780 = .ok (.invokestatic 144, 3) := by decide +kernel
theorem dL_holds_783 : decode cL_holds 783 = .ok (.isub, 1) := by decide +kernel
theorem dL_holds_784 : decode cL_holds 784 = .ok (.iadd, 1) := by decide +kernel
theorem dL_holds_785 : decode cL_holds 785 = .ok (.istore 14, 2) := by decide +kernel
theorem dL_holds_787 : decode cL_holds 787 = .ok (.aload_n 0, 1) := by decide +kernel
theorem dL_holds_788 : decode cL_holds 788 = .ok (.iconst 3, 1) := by decide +kernel
theorem dL_holds_789 : decode cL_holds 789 = .ok (.iload 16, 2) := by decide +kernel
theorem dL_holds_791 : decode cL_holds 791 = .ok (.iconst 0, 1) := by decide +kernel
theorem dL_holds_792 : decode cL_holds 792 = .ok (.iconst 0, 1) := by decide +kernel
theorem dL_holds_793 : decode cL_holds 793 = .ok (.invokestatic 144, 3) := by decide +kernel
theorem dL_holds_796 : decode cL_holds 796 = .ok (.iload 16, 2) := by decide +kernel
theorem dL_holds_798 : decode cL_holds 798 = .ok (.ifCond .ne 7, 3) := by decide +kernel
theorem dL_holds_801 : decode cL_holds 801 = .ok (.lload_n 3, 1) := by decide +kernel
theorem dL_holds_802 : decode cL_holds 802 = .ok (.goto 5, 3) := by decide +kernel
theorem dL_holds_805 : decode cL_holds 805 = .ok (.lload 5, 2) := by decide +kernel
theorem dL_holds_807 : decode cL_holds 807 = .ok (.invokestatic 166, 3) := by decide +kernel
theorem dL_holds_810 : decode cL_holds 810 = .ok (.if_icmp .ne 49, 3) := by decide +kernel
theorem dL_holds_813 : decode cL_holds 813 = .ok (.aload_n 0, 1) := by decide +kernel
theorem dL_holds_814 : decode cL_holds 814 = .ok (.iconst 3, 1) := by decide +kernel
theorem dL_holds_815 : decode cL_holds 815 = .ok (.iload 16, 2) := by decide +kernel
theorem dL_holds_817 : decode cL_holds 817 = .ok (.iconst 2, 1) := by decide +kernel
theorem dL_holds_818 : decode cL_holds 818 = .ok (.iconst 0, 1) := by decide +kernel
theorem dL_holds_819 : decode cL_holds 819 = .ok (.invokestatic 144, 3) := by decide +kernel
theorem dL_holds_822 : decode cL_holds 822 = .ok (.aload_n 0, 1) := by decide +kernel
theorem dL_holds_823 : decode cL_holds 823 = .ok (.iconst 3, 1) := by decide +kernel
theorem dL_holds_824 : decode cL_holds 824 = .ok (.iload 16, 2) := by decide +kernel
theorem dL_holds_826 : decode cL_holds 826 = .ok (.iconst 0, 1) := by decide +kernel
theorem dL_holds_827 : decode cL_holds 827 = .ok (.iconst 0, 1) := by decide +kernel
theorem dL_holds_828 : decode cL_holds 828 = .ok (.invokestatic 144, 3) := by decide +kernel
theorem dL_holds_831 : decode cL_holds 831 = .ok (.if_icmp .lt 28, 3) := by decide +kernel
theorem dL_holds_834 : decode cL_holds 834 = .ok (.aload_n 0, 1) := by decide +kernel
theorem dL_holds_835 : decode cL_holds 835 = .ok (.iconst 3, 1) := by decide +kernel
theorem dL_holds_836 : decode cL_holds 836 = .ok (.iload 16, 2) := by decide +kernel
theorem dL_holds_838 : decode cL_holds 838 = .ok (.iconst 5, 1) := by decide +kernel
theorem dL_holds_839 : decode cL_holds 839 = .ok (.iconst 0, 1) := by decide +kernel
theorem dL_holds_840 : decode cL_holds 840 = .ok (.invokestatic 144, 3) := by decide +kernel
theorem dL_holds_843 : decode cL_holds 843 = .ok (.aload_n 0, 1) := by decide +kernel
theorem dL_holds_844 : decode cL_holds 844 = .ok (.iconst 3, 1) := by decide +kernel
theorem dL_holds_845 : decode cL_holds 845 = .ok (.iload 16, 2) := by decide +kernel
theorem dL_holds_847 : decode cL_holds 847 = .ok (.iconst 0, 1) := by decide +kernel
theorem dL_holds_848 : decode cL_holds 848 = .ok (.iconst 0, 1) := by decide +kernel
theorem dL_holds_849 : decode cL_holds 849 = .ok (.invokestatic 144, 3) := by decide +kernel
theorem dL_holds_852 : decode cL_holds 852 = .ok (.if_icmp .gt 7, 3) := by decide +kernel
theorem dL_holds_855 : decode cL_holds 855 = .ok (.iconst 1, 1) := by decide +kernel
theorem dL_holds_856 : decode cL_holds 856 = .ok (.goto 4, 3) := by decide +kernel
theorem dL_holds_859 : decode cL_holds 859 = .ok (.iconst 0, 1) := by decide +kernel
theorem dL_holds_860 : decode cL_holds 860 = .ok (.istore 15, 2) := by decide +kernel
theorem dL_holds_862 : decode cL_holds 862 = .ok (.iinc 16 1, 3) := by decide +kernel
theorem dL_holds_865 : decode cL_holds 865 = .ok (.goto (-131), 3) := by decide +kernel
theorem dL_holds_868 : decode cL_holds 868 = .ok (.iload 15, 2) := by decide +kernel
theorem dL_holds_870 : decode cL_holds 870 = .ok (.ifCond .eq 181, 3) := by decide +kernel
theorem dL_holds_873 : decode cL_holds 873 = .ok (.aload_n 0, 1) := by decide +kernel
theorem dL_holds_874 : decode cL_holds 874 = .ok (.iconst 2, 1) := by decide +kernel
theorem dL_holds_875 : decode cL_holds 875 = .ok (.iconst 5, 1) := by decide +kernel
theorem dL_holds_876 : decode cL_holds 876 = .ok (.iconst 0, 1) := by decide +kernel
theorem dL_holds_877 : decode cL_holds 877 = .ok (.iconst 0, 1) := by decide +kernel
theorem dL_holds_878 : decode cL_holds 878 = .ok (.invokestatic 144, 3) := by decide +kernel
theorem dL_holds_881 : decode cL_holds 881 = .ok (.iload 7, 2) := by decide +kernel
theorem dL_holds_883 : decode cL_holds 883 = .ok (.if_icmp .ne 168, 3) := by decide +kernel
theorem dL_holds_886 : decode cL_holds 886 = .ok (.aload_n 0, 1) := by decide +kernel
theorem dL_holds_887 : decode cL_holds 887 = .ok (.iconst 2, 1) := by decide +kernel
theorem dL_holds_888 : decode cL_holds 888 = .ok (.bipush 6, 2) := by decide +kernel
theorem dL_holds_890 : decode cL_holds 890 = .ok (.iconst 0, 1) := by decide +kernel
theorem dL_holds_891 : decode cL_holds 891 = .ok (.iconst 0, 1) := by decide +kernel
theorem dL_holds_892 : decode cL_holds 892 = .ok (.invokestatic 144, 3) := by decide +kernel
theorem dL_holds_895 : decode cL_holds 895 = .ok (.iload 8, 2) := by decide +kernel
theorem dL_holds_897 : decode cL_holds 897 = .ok (.if_icmp .ne 154, 3) := by decide +kernel
theorem dL_holds_900 : decode cL_holds 900 = .ok (.aload_n 0, 1) := by decide +kernel
theorem dL_holds_901 : decode cL_holds 901 = .ok (.iconst 3, 1) := by decide +kernel
theorem dL_holds_902 : decode cL_holds 902 = .ok (.iconst 0, 1) := by decide +kernel
theorem dL_holds_903 : decode cL_holds 903 = .ok (.iconst 3, 1) := by decide +kernel
theorem dL_holds_904 : decode cL_holds 904 = .ok (.iconst 0, 1) := by decide +kernel
theorem dL_holds_905 : decode cL_holds 905 = .ok (.invokestatic 144, 3) := by decide +kernel
theorem dL_holds_908 : decode cL_holds 908 = .ok (.aload_n 0, 1) := by decide +kernel
theorem dL_holds_909 : decode cL_holds 909 = .ok (.iconst 3, 1) := by decide +kernel
theorem dL_holds_910 : decode cL_holds 910 = .ok (.iconst 1, 1) := by decide +kernel
theorem dL_holds_911 : decode cL_holds 911 = .ok (.iconst 3, 1) := by decide +kernel
theorem dL_holds_912 : decode cL_holds 912 = .ok (.iconst 0, 1) := by decide +kernel
theorem dL_holds_913 : decode cL_holds 913 = .ok (.invokestatic 144, 3) := by decide +kernel
theorem dL_holds_916 : decode cL_holds 916 = .ok (.iadd, 1) := by decide +kernel
theorem dL_holds_917 : decode cL_holds 917 = .ok (.iload 10, 2) := by decide +kernel
theorem dL_holds_919 : decode cL_holds 919 = .ok (.if_icmp .ne 132, 3) := by decide +kernel
theorem dL_holds_922 : decode cL_holds 922 = .ok (.aload_n 0, 1) := by decide +kernel
theorem dL_holds_923 : decode cL_holds 923 = .ok (.iconst 3, 1) := by decide +kernel
theorem dL_holds_924 : decode cL_holds 924 = .ok (.iconst 0, 1) := by decide +kernel
theorem dL_holds_925 : decode cL_holds 925 = .ok (.iconst 4, 1) := by decide +kernel
theorem dL_holds_926 : decode cL_holds 926 = .ok (.iconst 0, 1) := by decide +kernel
theorem dL_holds_927 : decode cL_holds 927 = .ok (.invokestatic 144, 3) := by decide +kernel
theorem dL_holds_930 : decode cL_holds 930 = .ok (.aload_n 0, 1) := by decide +kernel
theorem dL_holds_931 : decode cL_holds 931 = .ok (.iconst 3, 1) := by decide +kernel
theorem dL_holds_932 : decode cL_holds 932 = .ok (.iconst 1, 1) := by decide +kernel
theorem dL_holds_933 : decode cL_holds 933 = .ok (.iconst 4, 1) := by decide +kernel
theorem dL_holds_934 : decode cL_holds 934 = .ok (.iconst 0, 1) := by decide +kernel
theorem dL_holds_935 : decode cL_holds 935 = .ok (.invokestatic 144, 3) := by decide +kernel
theorem dL_holds_938 : decode cL_holds 938 = .ok (.iadd, 1) := by decide +kernel
theorem dL_holds_939 : decode cL_holds 939 = .ok (.iload 11, 2) := by decide +kernel
theorem dL_holds_941 : decode cL_holds 941 = .ok (.if_icmp .ne 110, 3) := by decide +kernel
theorem dL_holds_944 : decode cL_holds 944 = .ok (.aload_n 0, 1) := by decide +kernel
theorem dL_holds_945 : decode cL_holds 945 = .ok (.invokevirtual 175, 3) := by decide +kernel
theorem dL_holds_948 : decode cL_holds 948 = .ok (.iload 9, 2) := by decide +kernel
theorem dL_holds_950 : decode cL_holds 950 = .ok (.if_icmp .ne 101, 3) := by decide +kernel
theorem dL_holds_953 : decode cL_holds 953 = .ok (.aload_n 0, 1) := by decide +kernel
theorem dL_holds_954 : decode cL_holds 954 = .ok (.invokevirtual 178, 3) := by decide +kernel
theorem dL_holds_957 : decode cL_holds 957 = .ok (.iload 12, 2) := by decide +kernel
theorem dL_holds_959 : decode cL_holds 959 = .ok (.if_icmp .ne 92, 3) := by decide +kernel
theorem dL_holds_962 : decode cL_holds 962 = .ok (.aload_n 0, 1) := by decide +kernel
theorem dL_holds_963 : decode cL_holds 963 = .ok (.invokevirtual 181, 3) := by decide +kernel
theorem dL_holds_966 : decode cL_holds 966 = .ok (.iload 14, 2) := by decide +kernel
theorem dL_holds_968 : decode cL_holds 968 = .ok (.if_icmp .ne 83, 3) := by decide +kernel
theorem dL_holds_971 : decode cL_holds 971 = .ok (.aload_n 0, 1) := by decide +kernel
theorem dL_holds_972 : decode cL_holds 972 = .ok (.iconst 3, 1) := by decide +kernel
theorem dL_holds_973 : decode cL_holds 973 = .ok (.iconst 0, 1) := by decide +kernel
theorem dL_holds_974 : decode cL_holds 974 = .ok (.iconst 0, 1) := by decide +kernel
theorem dL_holds_975 : decode cL_holds 975 = .ok (.iconst 0, 1) := by decide +kernel
theorem dL_holds_976 : decode cL_holds 976 = .ok (.invokestatic 144, 3) := by decide +kernel
theorem dL_holds_979 : decode cL_holds 979 = .ok (.aload_n 0, 1) := by decide +kernel
theorem dL_holds_980 : decode cL_holds 980 = .ok (.iconst 3, 1) := by decide +kernel
theorem dL_holds_981 : decode cL_holds 981 = .ok (.iconst 1, 1) := by decide +kernel
theorem dL_holds_982 : decode cL_holds 982 = .ok (.iconst 0, 1) := by decide +kernel
theorem dL_holds_983 : decode cL_holds 983 = .ok (.iconst 0, 1) := by decide +kernel
theorem dL_holds_984 : decode cL_holds 984 = .ok (.invokestatic 144, 3) := by decide +kernel
theorem dL_holds_987 : decode cL_holds 987 = .ok (.iadd, 1) := by decide +kernel
theorem dL_holds_988 : decode cL_holds 988 = .ok (.aload_n 0, 1) := by decide +kernel
theorem dL_holds_989 : decode cL_holds 989 = .ok (.iconst 3, 1) := by decide +kernel
theorem dL_holds_990 : decode cL_holds 990 = .ok (.iconst 0, 1) := by decide +kernel
theorem dL_holds_991 : decode cL_holds 991 = .ok (.iconst 1, 1) := by decide +kernel
theorem dL_holds_992 : decode cL_holds 992 = .ok (.iconst 0, 1) := by decide +kernel
theorem dL_holds_993 : decode cL_holds 993 = .ok (.invokestatic 144, 3) := by decide +kernel
theorem dL_holds_996 : decode cL_holds 996 = .ok (.iadd, 1) := by decide +kernel
theorem dL_holds_997 : decode cL_holds 997 = .ok (.aload_n 0, 1) := by decide +kernel
theorem dL_holds_998 : decode cL_holds 998 = .ok (.iconst 3, 1) := by decide +kernel
theorem dL_holds_999 : decode cL_holds 999 = .ok (.iconst 1, 1) := by decide +kernel
theorem dL_holds_1000 : decode cL_holds 1000 = .ok (.iconst 1, 1) := by decide +kernel
theorem dL_holds_1001 : decode cL_holds 1001 = .ok (.iconst 0, 1) := by decide +kernel
theorem dL_holds_1002 : decode cL_holds 1002 = .ok (.invokestatic 144, 3) := by decide +kernel
theorem dL_holds_1005 : decode cL_holds 1005 = .ok (.iadd, 1) := by decide +kernel
theorem dL_holds_1006 : decode cL_holds 1006 = .ok (.aload_n 0, 1) := by decide +kernel
theorem dL_holds_1007 : decode cL_holds 1007 = .ok (.iconst 2, 1) := by decide +kernel
theorem dL_holds_1008 : decode cL_holds 1008 = .ok (.iconst 3, 1) := by decide +kernel
theorem dL_holds_1009 : decode cL_holds 1009 = .ok (.iconst 0, 1) := by decide +kernel
theorem dL_holds_1010 : decode cL_holds 1010 = .ok (.iconst 0, 1) := by decide +kernel
theorem dL_holds_1011 : decode cL_holds 1011 = .ok (.invokestatic 144, 3) := by decide +kernel
theorem dL_holds_1014 : decode cL_holds 1014 = .ok (.iadd, 1) := by decide +kernel
theorem dL_holds_1015 : decode cL_holds 1015 = .ok (.aload_n 0, 1) := by decide +kernel
theorem dL_holds_1016 : decode cL_holds 1016 = .ok (.iconst 2, 1) := by decide +kernel
theorem dL_holds_1017 : decode cL_holds 1017 = .ok (.iconst 1, 1) := by decide +kernel
theorem dL_holds_1018 : decode cL_holds 1018 = .ok (.iconst 0, 1) := by decide +kernel
theorem dL_holds_1019 : decode cL_holds 1019 = .ok (.iconst 0, 1) := by decide +kernel
theorem dL_holds_1020 : decode cL_holds 1020 = .ok (.invokestatic 144, 3) := by decide +kernel
theorem dL_holds_1023 : decode cL_holds 1023 = .ok (.if_icmp .ne 28, 3) := by decide +kernel
theorem dL_holds_1026 : decode cL_holds 1026 = .ok (.aload_n 0, 1) := by decide +kernel
theorem dL_holds_1027 : decode cL_holds 1027 = .ok (.iconst 2, 1) := by decide +kernel
theorem dL_holds_1028 : decode cL_holds 1028 = .ok (.iconst 2, 1) := by decide +kernel
theorem dL_holds_1029 : decode cL_holds 1029 = .ok (.iconst 0, 1) := by decide +kernel
theorem dL_holds_1030 : decode cL_holds 1030 = .ok (.iconst 0, 1) := by decide +kernel
theorem dL_holds_1031 : decode cL_holds 1031 = .ok (.invokestatic 144, 3) := by decide +kernel
theorem dL_holds_1034 : decode cL_holds 1034 = .ok (.aload_n 0, 1) := by decide +kernel
theorem dL_holds_1035 : decode cL_holds 1035 = .ok (.iconst 2, 1) := by decide +kernel
theorem dL_holds_1036 : decode cL_holds 1036 = .ok (.iconst 1, 1) := by decide +kernel
theorem dL_holds_1037 : decode cL_holds 1037 = .ok (.iconst 0, 1) := by decide +kernel
theorem dL_holds_1038 : decode cL_holds 1038 = .ok (.iconst 0, 1) := by decide +kernel
theorem dL_holds_1039 : decode cL_holds 1039 = .ok (.invokestatic 144, 3) := by decide +kernel
theorem dL_holds_1042 : decode cL_holds 1042 = .ok (.iconst 2, 1) := by decide +kernel
theorem dL_holds_1043 : decode cL_holds 1043 = .ok (.irem, 1) := by decide +kernel
theorem dL_holds_1044 : decode cL_holds 1044 = .ok (.if_icmp .ne 7, 3) := by decide +kernel
theorem dL_holds_1047 : decode cL_holds 1047 = .ok (.iconst 1, 1) := by decide +kernel
theorem dL_holds_1048 : decode cL_holds 1048 = .ok (.goto 4, 3) := by decide +kernel
theorem dL_holds_1051 : decode cL_holds 1051 = .ok (.iconst 0, 1) := by decide +kernel
theorem dL_holds_1052 : decode cL_holds 1052 = .ok (.ireturn, 1) := by decide +kernel
theorem dL_act_0 : decode cL_act 0 = .ok (.iload_n 1, 1) := by decide +kernel
theorem dL_act_1 : decode cL_act 1 = .ok (.bipush 16, 2) := by decide +kernel
theorem dL_act_3 : decode cL_act 3 = .ok (.idiv, 1) := by decide +kernel
theorem dL_act_4 : decode cL_act 4 = .ok (.istore_n 2, 1) := by decide +kernel
theorem dL_act_5 : decode cL_act 5 = .ok (.aload_n 0, 1) := by decide +kernel
theorem dL_act_6 : decode cL_act 6 = .ok (.iconst 2, 1) := by decide +kernel
theorem dL_act_7 : decode cL_act 7 = .ok (.iconst 0, 1) := by decide +kernel
theorem dL_act_8 : decode cL_act 8 = .ok (.iconst 0, 1) := by decide +kernel
theorem dL_act_9 : decode cL_act 9 = .ok (.iconst 0, 1) := by decide +kernel
theorem dL_act_10 : decode cL_act 10 = .ok (.invokestatic 144, 3) := by decide +kernel
theorem dL_act_13 : decode cL_act 13 = .ok (.aload_n 0, 1) := by decide +kernel
theorem dL_act_14 : decode cL_act 14 = .ok (.iconst 2, 1) := by decide +kernel
theorem dL_act_15 : decode cL_act 15 = .ok (.iconst 0, 1) := by decide +kernel
theorem dL_act_16 : decode cL_act 16 = .ok (.iconst 0, 1) := by decide +kernel
theorem dL_act_17 : decode cL_act 17 = .ok (.iconst 0, 1) := by decide +kernel
theorem dL_act_18 : decode cL_act 18 = .ok (.invokestatic 144, 3) := by decide +kernel
theorem dL_act_21 : decode cL_act 21 = .ok (.imul, 1) := by decide +kernel
theorem dL_act_22 : decode cL_act 22 = .ok (.istore_n 3, 1) := by decide +kernel
theorem dL_act_23 : decode cL_act 23 = .ok (.iload_n 1, 1) := by decide +kernel
theorem dL_act_24 : decode cL_act 24 = .ok (.bipush 16, 2) := by decide +kernel
theorem dL_act_26 : decode cL_act 26 = .ok (.irem, 1) := by decide +kernel
theorem dL_act_27 : decode cL_act 27 = .ok (.tableswitch 168 0 4 #[33, 67, 79, 105, 141], 33) := by decide +kernel
theorem dL_act_60 : decode cL_act 60 = .ok (.iload_n 2, 1) := by decide +kernel
theorem dL_act_61 : decode cL_act 61 = .ok (.iconst 3, 1) := by decide +kernel
theorem dL_act_62 : decode cL_act 62 = .ok (.irem, 1) := by decide +kernel
theorem dL_act_63 : decode cL_act 63 = .ok (.ifCond .ne 21, 3) := by decide +kernel
theorem dL_act_66 : decode cL_act 66 = .ok (.aload_n 0, 1) := by decide +kernel
theorem dL_act_67 : decode cL_act 67 = .ok (.bipush 6, 2) := by decide +kernel
theorem dL_act_69 : decode cL_act 69 = .ok (.iconst 3, 1) := by decide +kernel
theorem dL_act_70 : decode cL_act 70 = .ok (.iload_n 2, 1) := by decide +kernel
theorem dL_act_71 : decode cL_act 71 = .ok (.iconst 3, 1) := by decide +kernel
theorem dL_act_72 : decode cL_act 72 = .ok (.idiv, 1) := by decide +kernel
theorem dL_act_73 : decode cL_act 73 = .ok (.iconst 4, 1) := by decide +kernel
theorem dL_act_74 : decode cL_act 74 = .ok (.irem, 1) := by decide +kernel
theorem dL_act_75 : decode cL_act 75 = .ok (.iadd, 1) := by decide +kernel
theorem dL_act_76 : decode cL_act 76 = .ok (.iconst 0, 1) := by decide +kernel
theorem dL_act_77 : decode cL_act 77 = .ok (.iconst 0, 1) := by decide +kernel
theorem dL_act_78 : decode cL_act 78 = .ok (.invokestatic 144, 3) := by decide +kernel
theorem dL_act_81 : decode cL_act 81 = .ok (.goto 12, 3) := by decide +kernel
theorem dL_act_84 : decode cL_act 84 = .ok (.aload_n 0, 1) := by decide +kernel
theorem dL_act_85 : decode cL_act 85 = .ok (.bipush 8, 2) := by decide +kernel
theorem dL_act_87 : decode cL_act 87 = .ok (.iconst 0, 1) := by decide +kernel
theorem dL_act_88 : decode cL_act 88 = .ok (.iconst 0, 1) := by decide +kernel
theorem dL_act_89 : decode cL_act 89 = .ok (.iconst 0, 1) := by decide +kernel
theorem dL_act_90 : decode cL_act 90 = .ok (.invokestatic 144, 3) := by decide +kernel
theorem dL_act_93 : decode cL_act 93 = .ok (.ireturn, 1) := by decide +kernel
theorem dL_act_94 : decode cL_act 94 = .ok (.aload_n 0, 1) := by decide +kernel
theorem dL_act_95 : decode cL_act 95 = .ok (.bipush 9, 2) := by decide +kernel
theorem dL_act_97 : decode cL_act 97 = .ok (.iload_n 2, 1) := by decide +kernel
theorem dL_act_98 : decode cL_act 98 = .ok (.iconst 2, 1) := by decide +kernel
theorem dL_act_99 : decode cL_act 99 = .ok (.irem, 1) := by decide +kernel
theorem dL_act_100 : decode cL_act 100 = .ok (.iconst 0, 1) := by decide +kernel
theorem dL_act_101 : decode cL_act 101 = .ok (.iconst 0, 1) := by decide +kernel
theorem dL_act_102 : decode cL_act 102 = .ok (.invokestatic 144, 3) := by decide +kernel
theorem dL_act_105 : decode cL_act 105 = .ok (.ireturn, 1) := by decide +kernel
theorem dL_act_106 : decode cL_act 106 = .ok (.aload_n 0, 1) := by decide +kernel
theorem dL_act_107 : decode cL_act 107 = .ok (.iconst 2, 1) := by decide +kernel
theorem dL_act_108 : decode cL_act 108 = .ok (.iconst 1, 1) := by decide +kernel
theorem dL_act_109 : decode cL_act 109 = .ok (.iconst 0, 1) := by decide +kernel
theorem dL_act_110 : decode cL_act 110 = .ok (.iconst 0, 1) := by decide +kernel
theorem dL_act_111 : decode cL_act 111 = .ok (.invokestatic 144, 3) := by decide +kernel
theorem dL_act_114 : decode cL_act 114 = .ok (.iconst 2, 1) := by decide +kernel
theorem dL_act_115 : decode cL_act 115 = .ok (.if_icmp .ge 7, 3) := by decide +kernel
theorem dL_act_118 : decode cL_act 118 = .ok (.iconst (-1), 1) := by decide +kernel
theorem dL_act_119 : decode cL_act 119 = .ok (.goto 12, 3) := by decide +kernel
theorem dL_act_122 : decode cL_act 122 = .ok (.aload_n 0, 1) := by decide +kernel
theorem dL_act_123 : decode cL_act 123 = .ok (.bipush 10, 2) := by decide +kernel
theorem dL_act_125 : decode cL_act 125 = .ok (.iconst 0, 1) := by decide +kernel
theorem dL_act_126 : decode cL_act 126 = .ok (.iconst 0, 1) := by decide +kernel
theorem dL_act_127 : decode cL_act 127 = .ok (.iconst 0, 1) := by decide +kernel
theorem dL_act_128 : decode cL_act 128 = .ok (.invokestatic 144, 3) := by decide +kernel
theorem dL_act_131 : decode cL_act 131 = .ok (.ireturn, 1) := by decide +kernel
theorem dL_act_132 : decode cL_act 132 = .ok (.iload_n 2, 1) := by decide +kernel
theorem dL_act_133 : decode cL_act 133 = .ok (.iconst 2, 1) := by decide +kernel
theorem dL_act_134 : decode cL_act 134 = .ok (.irem, 1) := by decide +kernel
theorem dL_act_135 : decode cL_act 135 = .ok (.ifCond .ne 19, 3) := by decide +kernel
theorem dL_act_138 : decode cL_act 138 = .ok (.aload_n 0, 1) := by decide +kernel
theorem dL_act_139 : decode cL_act 139 = .ok (.bipush 14, 2) := by decide +kernel
theorem dL_act_141 : decode cL_act 141 = .ok (.iload_n 2, 1) := by decide +kernel
theorem dL_act_142 : decode cL_act 142 = .ok (.iconst 2, 1) := by decide +kernel
theorem dL_act_143 : decode cL_act 143 = .ok (.idiv, 1) := by decide +kernel
theorem dL_act_144 : decode cL_act 144 = .ok (.iconst 2, 1) := by decide +kernel
theorem dL_act_145 : decode cL_act 145 = .ok (.irem, 1) := by decide +kernel
theorem dL_act_146 : decode cL_act 146 = .ok (.iconst 0, 1) := by decide +kernel
theorem dL_act_147 : decode cL_act 147 = .ok (.iconst 0, 1) := by decide +kernel
theorem dL_act_148 : decode cL_act 148 = .ok (.invokestatic 144, 3) := by decide +kernel
theorem dL_act_151 : decode cL_act 151 = .ok (.goto 16, 3) := by decide +kernel
theorem dL_act_154 : decode cL_act 154 = .ok (.aload_n 0, 1) := by decide +kernel
theorem dL_act_155 : decode cL_act 155 = .ok (.bipush 15, 2) := by decide +kernel
theorem dL_act_157 : decode cL_act 157 = .ok (.iload_n 2, 1) := by decide +kernel
theorem dL_act_158 : decode cL_act 158 = .ok (.iconst 2, 1) := by decide +kernel
theorem dL_act_159 : decode cL_act 159 = .ok (.idiv, 1) := by decide +kernel
theorem dL_act_160 : decode cL_act 160 = .ok (.iconst 2, 1) := by decide +kernel
theorem dL_act_161 : decode cL_act 161 = .ok (.irem, 1) := by decide +kernel
theorem dL_act_162 : decode cL_act 162 = .ok (.iconst 0, 1) := by decide +kernel
theorem dL_act_163 : decode cL_act 163 = .ok (.iconst 0, 1) := by decide +kernel
theorem dL_act_164 : decode cL_act 164 = .ok (.invokestatic 144, 3) := by decide +kernel
theorem dL_act_167 : decode cL_act 167 = .ok (.ireturn, 1) := by decide +kernel
theorem dL_act_168 : decode cL_act 168 = .ok (.aload_n 0, 1) := by decide +kernel
theorem dL_act_169 : decode cL_act 169 = .ok (.invokevirtual 178, 3) := by decide +kernel
theorem dL_act_172 : decode cL_act 172 = .ok (.istore 4, 2) := by decide +kernel
theorem dL_act_174 : decode cL_act 174 = .ok (.iload 4, 2) := by decide +kernel
theorem dL_act_176 : decode cL_act 176 = .ok (.iconst (-1), 1) := by decide +kernel
theorem dL_act_177 : decode cL_act 177 = .ok (.if_icmp .ne 7, 3) := by decide +kernel
theorem dL_act_180 : decode cL_act 180 = .ok (.iconst (-1), 1) := by decide +kernel
theorem dL_act_181 : decode cL_act 181 = .ok (.goto 13, 3) := by decide +kernel
theorem dL_act_184 : decode cL_act 184 = .ok (.aload_n 0, 1) := by decide +kernel
theorem dL_act_185 : decode cL_act 185 = .ok (.bipush 7, 2) := by decide +kernel
theorem dL_act_187 : decode cL_act 187 = .ok (.iload 4, 2) := by decide +kernel
theorem dL_act_189 : decode cL_act 189 = .ok (.iconst 0, 1) := by decide +kernel
theorem dL_act_190 : decode cL_act 190 = .ok (.iconst 0, 1) := by decide +kernel
theorem dL_act_191 : decode cL_act 191 = .ok (.invokestatic 144, 3) := by decide +kernel
theorem dL_act_194 : decode cL_act 194 = .ok (.ireturn, 1) := by decide +kernel
theorem dL_act_195 : decode cL_act 195 = .ok (.aload_n 0, 1) := by decide +kernel
theorem dL_act_196 : decode cL_act 196 = .ok (.bipush 7, 2) := by decide +kernel
theorem dL_act_198 : decode cL_act 198 = .ok (.iload_n 2, 1) := by decide +kernel
theorem dL_act_199 : decode cL_act 199 = .ok (.iload_n 3, 1) := by decide +kernel
theorem dL_act_200 : decode cL_act 200 = .ok (.irem, 1) := by decide +kernel
theorem dL_act_201 : decode cL_act 201 = .ok (.iconst 0, 1) := by decide +kernel
theorem dL_act_202 : decode cL_act 202 = .ok (.iconst 0, 1) := by decide +kernel
theorem dL_act_203 : decode cL_act 203 = .ok (.invokestatic 144, 3) := by decide +kernel
theorem dL_act_206 : decode cL_act 206 = .ok (.ireturn, 1) := by decide +kernel
theorem dL_alike_0 : decode cL_alike 0 = .ok (.aload_n 0, 1) := by decide +kernel
theorem dL_alike_1 : decode cL_alike 1 = .ok (.iload_n 2, 1) := by decide +kernel
theorem dL_alike_2 : decode cL_alike 2 = .ok (.i2l, 1) := by decide +kernel
theorem dL_alike_3 : decode cL_alike 3 = .ok (.iconst 1, 1) := by decide +kernel
theorem dL_alike_4 : decode cL_alike 4 = .ok (.iload_n 2, 1) := by decide +kernel
theorem dL_alike_5 : decode cL_alike 5 = .ok (.bipush 30, 2) := by decide +kernel
theorem dL_alike_7 : decode cL_alike 7 = .ok (.irem, 1) := by decide +kernel
theorem dL_alike_8 : decode cL_alike 8 = .ok (.iadd, 1) := by decide +kernel
theorem dL_alike_9 : decode cL_alike 9 = .ok (.invokestatic 162, 3) := by decide +kernel
theorem dL_alike_12 : decode cL_alike 12 = .ok (.aload_n 1, 1) := by decide +kernel
theorem dL_alike_13 : decode cL_alike 13 = .ok (.iload_n 2, 1) := by decide +kernel
theorem dL_alike_14 : decode cL_alike 14 = .ok (.i2l, 1) := by decide +kernel
theorem dL_alike_15 : decode cL_alike 15 = .ok (.iconst 1, 1) := by decide +kernel
theorem dL_alike_16 : decode cL_alike 16 = .ok (.iload_n 2, 1) := by decide +kernel
theorem dL_alike_17 : decode cL_alike 17 = .ok (.bipush 30, 2) := by decide +kernel
theorem dL_alike_19 : decode cL_alike 19 = .ok (.irem, 1) := by decide +kernel
theorem dL_alike_20 : decode cL_alike 20 = .ok (.iadd, 1) := by decide +kernel
theorem dL_alike_21 : decode cL_alike 21 = .ok (.invokestatic 162, 3) := by decide +kernel
theorem dL_alike_24 : decode cL_alike 24 = .ok (.if_icmp .ne 35, 3) := by decide +kernel
theorem dL_alike_27 : decode cL_alike 27 = .ok (.aload_n 0, 1) := by decide +kernel
theorem dL_alike_28 : decode cL_alike 28 = .ok (.iconst 0, 1) := by decide +kernel
theorem dL_alike_29 : decode cL_alike 29 = .ok (.invokestatic 148, 3) := by decide +kernel
theorem dL_alike_32 : decode cL_alike 32 = .ok (.aload_n 1, 1) := by decide +kernel
theorem dL_alike_33 : decode cL_alike 33 = .ok (.iconst 0, 1) := by decide +kernel
theorem dL_alike_34 : decode cL_alike 34 = .ok (.invokestatic 148, 3) := by decide +kernel
theorem dL_alike_37 : decode cL_alike 37 = .ok (.lcmp, 1) := by decide +kernel
theorem dL_alike_38 : decode cL_alike 38 = .ok (.ifCond .ne 21, 3) := by decide +kernel
theorem dL_alike_41 : decode cL_alike 41 = .ok (.aload_n 0, 1) := by decide +kernel
theorem dL_alike_42 : decode cL_alike 42 = .ok (.iconst 1, 1) := by decide +kernel
theorem dL_alike_43 : decode cL_alike 43 = .ok (.invokestatic 148, 3) := by decide +kernel
theorem dL_alike_46 : decode cL_alike 46 = .ok (.aload_n 1, 1) := by decide +kernel
theorem dL_alike_47 : decode cL_alike 47 = .ok (.iconst 1, 1) := by decide +kernel
