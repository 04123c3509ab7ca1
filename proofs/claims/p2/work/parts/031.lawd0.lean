/-! decode rows -/
theorem dL_law_0 : decode cL_law 0 = .ok (.new 8, 3) := dn_187 (oo_0 0 rfl rfl) rfl
theorem dL_law_3 : decode cL_law 3 = .ok (.dup, 1) := dn_89 (oo_0 3 rfl rfl)
theorem dL_law_4 : decode cL_law 4 = .ok (.invokespecial 171, 3) := dn_183 (oo_0 4 rfl rfl) rfl
theorem dL_law_7 : decode cL_law 7 = .ok (.astore_n 1, 1) := dn_76 (oo_0 7 rfl rfl)
theorem dL_law_8 : decode cL_law 8 = .ok (.new 172, 3) := dn_187 (oo_0 8 rfl rfl) rfl
theorem dL_law_11 : decode cL_law 11 = .ok (.dup, 1) := dn_89 (oo_0 11 rfl rfl)
theorem dL_law_12 : decode cL_law 12 = .ok (.invokespecial 174, 3) := dn_183 (oo_0 12 rfl rfl) rfl
theorem dL_law_15 : decode cL_law 15 = .ok (.astore_n 2, 1) := dn_77 (oo_0 15 rfl rfl)
theorem dL_law_16 : decode cL_law 16 = .ok (.new 14, 3) := dn_187 (oo_0 16 rfl rfl) rfl
theorem dL_law_19 : decode cL_law 19 = .ok (.dup, 1) := dn_89 (oo_0 19 rfl rfl)
theorem dL_law_20 : decode cL_law 20 = .ok (.invokespecial 175, 3) := dn_183 (oo_0 20 rfl rfl) rfl
theorem dL_law_23 : decode cL_law 23 = .ok (.astore_n 3, 1) := dn_78 (oo_0 23 rfl rfl)
theorem dL_law_24 : decode cL_law 24 = .ok (.iconst 0, 1) := dn_3 (oo_0 24 rfl rfl)
theorem dL_law_25 : decode cL_law 25 = .ok (.istore 4, 2) := dn_54 (oo_0 25 rfl rfl) rfl
theorem dL_law_27 : decode cL_law 27 = .ok (.iload 4, 2) := dn_21 (oo_0 27 rfl rfl) rfl
theorem dL_law_29 : decode cL_law 29 = .ok (.aload_n 0, 1) := dn_42 (oo_0 29 rfl rfl)
theorem dL_law_30 : decode cL_law 30 = .ok (.arraylength, 1) := dn_190 (oo_0 30 rfl rfl)
theorem dL_law_31 : decode cL_law 31 = .ok (.iconst 4, 1) := dn_7 (oo_0 31 rfl rfl)
theorem dL_law_32 : decode cL_law 32 = .ok (.isub, 1) := dn_100 (oo_0 32 rfl rfl)
theorem dL_law_33 : decode cL_law 33 = .ok (.if_icmp .gt 2217, 3) := dn_163 (oo_0 33 rfl rfl) (by decide +kernel)
theorem dL_law_36 : decode cL_law 36 = .ok (.aload_n 0, 1) := dn_42 (oo_0 36 rfl rfl)
theorem dL_law_37 : decode cL_law 37 = .ok (.iload 4, 2) := dn_21 (oo_0 37 rfl rfl) rfl
theorem dL_law_39 : decode cL_law 39 = .ok (.iaload, 1) := dn_46 (oo_0 39 rfl rfl)
theorem dL_law_40 : decode cL_law 40 = .ok (.bipush 63, 2) := dn_16 (oo_0 40 rfl rfl) (by decide +kernel)
theorem dL_law_42 : decode cL_law 42 = .ok (.iand, 1) := dn_126 (oo_0 42 rfl rfl)
theorem dL_law_43 : decode cL_law 43 = .ok (.tableswitch 2201 0 49 #[213, 282, 334, 386, 426, 454, 494, 534, 562, 614, 666, 734, 802, 854, 882, 910, 950, 978, 1018, 1086, 1126, 1178, 1230, 1270, 1310, 1350, 1402, 1430, 1470, 1498, 1526, 1566, 1606, 1646, 1714, 1754, 1782, 1810, 1862, 1902, 1930, 1982, 2010, 2038, 2066, 2094, 2134, 2162, 2175, 2188], 213) := by decide +kernel
theorem dL_law_256 : decode cL_law 256 = .ok (.aload_n 1, 1) := dn_43 (oo_0 256 rfl rfl)
theorem dL_law_257 : decode cL_law 257 = .ok (.aload_n 0, 1) := dn_42 (oo_0 257 rfl rfl)
theorem dL_law_258 : decode cL_law 258 = .ok (.iload 4, 2) := dn_21 (oo_0 258 rfl rfl) rfl
theorem dL_law_260 : decode cL_law 260 = .ok (.iconst 1, 1) := dn_4 (oo_0 260 rfl rfl)
theorem dL_law_261 : decode cL_law 261 = .ok (.iadd, 1) := dn_96 (oo_0 261 rfl rfl)
theorem dL_law_262 : decode cL_law 262 = .ok (.iaload, 1) := dn_46 (oo_0 262 rfl rfl)
theorem dL_law_263 : decode cL_law 263 = .ok (.aload_n 0, 1) := dn_42 (oo_1 0 rfl rfl)
theorem dL_law_264 : decode cL_law 264 = .ok (.iload 4, 2) := dn_21 (oo_1 1 rfl rfl) rfl
theorem dL_law_266 : decode cL_law 266 = .ok (.iconst 2, 1) := dn_5 (oo_1 3 rfl rfl)
theorem dL_law_267 : decode cL_law 267 = .ok (.iadd, 1) := dn_96 (oo_1 4 rfl rfl)
theorem dL_law_268 : decode cL_law 268 = .ok (.iaload, 1) := dn_46 (oo_1 5 rfl rfl)
theorem dL_law_269 : decode cL_law 269 = .ok (.aload_n 3, 1) := dn_45 (oo_1 6 rfl rfl)
theorem dL_law_270 : decode cL_law 270 = .ok (.invokestatic 176, 3) := dn_184 (oo_1 7 rfl rfl) rfl
theorem dL_law_273 : decode cL_law 273 = .ok (.istore 5, 2) := dn_54 (oo_1 10 rfl rfl) rfl
theorem dL_law_275 : decode cL_law 275 = .ok (.aload_n 2, 1) := dn_44 (oo_1 12 rfl rfl)
theorem dL_law_276 : decode cL_law 276 = .ok (.aload_n 0, 1) := dn_42 (oo_1 13 rfl rfl)
theorem dL_law_277 : decode cL_law 277 = .ok (.iload 4, 2) := dn_21 (oo_1 14 rfl rfl) rfl
theorem dL_law_279 : decode cL_law 279 = .ok (.iconst 1, 1) := dn_4 (oo_1 16 rfl rfl)
theorem dL_law_280 : decode cL_law 280 = .ok (.iadd, 1) := dn_96 (oo_1 17 rfl rfl)
theorem dL_law_281 : decode cL_law 281 = .ok (.iaload, 1) := dn_46 (oo_1 18 rfl rfl)
theorem dL_law_282 : decode cL_law 282 = .ok (.aload_n 0, 1) := dn_42 (oo_1 19 rfl rfl)
theorem dL_law_283 : decode cL_law 283 = .ok (.iload 4, 2) := dn_21 (oo_1 20 rfl rfl) rfl
theorem dL_law_285 : decode cL_law 285 = .ok (.iconst 2, 1) := dn_5 (oo_1 22 rfl rfl)
theorem dL_law_286 : decode cL_law 286 = .ok (.iadd, 1) := dn_96 (oo_1 23 rfl rfl)
theorem dL_law_287 : decode cL_law 287 = .ok (.iaload, 1) := dn_46 (oo_1 24 rfl rfl)
theorem dL_law_288 : decode cL_law 288 = .ok (.invokevirtual 181, 3) := dn_182 (oo_1 25 rfl rfl) rfl
theorem dL_law_291 : decode cL_law 291 = .ok (.istore 6, 2) := dn_54 (oo_1 28 rfl rfl) rfl
theorem dL_law_293 : decode cL_law 293 = .ok (.aload_n 2, 1) := dn_44 (oo_1 30 rfl rfl)
theorem dL_law_294 : decode cL_law 294 = .ok (.invokevirtual 182, 3) := dn_182 (oo_1 31 rfl rfl) rfl
theorem dL_law_297 : decode cL_law 297 = .ok (.iload 5, 2) := dn_21 (oo_1 34 rfl rfl) rfl
theorem dL_law_299 : decode cL_law 299 = .ok (.if_icmp .eq 5, 3) := dn_159 (oo_1 36 rfl rfl) (by decide +kernel)
theorem dL_law_302 : decode cL_law 302 = .ok (.iconst 0, 1) := dn_3 (oo_1 39 rfl rfl)
theorem dL_law_303 : decode cL_law 303 = .ok (.ireturn, 1) := dn_172 (oo_1 40 rfl rfl)
theorem dL_law_304 : decode cL_law 304 = .ok (.iload 5, 2) := dn_21 (oo_1 41 rfl rfl) rfl
theorem dL_law_306 : decode cL_law 306 = .ok (.ifCond .ne 16, 3) := dn_154 (oo_1 43 rfl rfl) (by decide +kernel)
theorem dL_law_309 : decode cL_law 309 = .ok (.aload_n 3, 1) := dn_45 (oo_1 46 rfl rfl)
theorem dL_law_310 : decode cL_law 310 = .ok (.getfield 13, 3) := dn_180 (oo_1 47 rfl rfl) rfl
theorem dL_law_313 : decode cL_law 313 = .ok (.iload 6, 2) := dn_21 (oo_1 50 rfl rfl) rfl
theorem dL_law_315 : decode cL_law 315 = .ok (.i2l, 1) := dn_133 (oo_2 0 rfl rfl)
theorem dL_law_316 : decode cL_law 316 = .ok (.lcmp, 1) := dn_148 (oo_2 1 rfl rfl)
theorem dL_law_317 : decode cL_law 317 = .ok (.ifCond .eq 5, 3) := dn_153 (oo_2 2 rfl rfl) (by decide +kernel)
theorem dL_law_320 : decode cL_law 320 = .ok (.iconst 0, 1) := dn_3 (oo_2 5 rfl rfl)
theorem dL_law_321 : decode cL_law 321 = .ok (.ireturn, 1) := dn_172 (oo_2 6 rfl rfl)
theorem dL_law_322 : decode cL_law 322 = .ok (.goto 1922, 3) := dn_167 (oo_2 7 rfl rfl) (by decide +kernel)
theorem dL_law_325 : decode cL_law 325 = .ok (.aload_n 1, 1) := dn_43 (oo_2 10 rfl rfl)
theorem dL_law_326 : decode cL_law 326 = .ok (.aload_n 0, 1) := dn_42 (oo_2 11 rfl rfl)
theorem dL_law_327 : decode cL_law 327 = .ok (.iload 4, 2) := dn_21 (oo_2 12 rfl rfl) rfl
theorem dL_law_329 : decode cL_law 329 = .ok (.iconst 1, 1) := dn_4 (oo_2 14 rfl rfl)
theorem dL_law_330 : decode cL_law 330 = .ok (.iadd, 1) := dn_96 (oo_2 15 rfl rfl)
theorem dL_law_331 : decode cL_law 331 = .ok (.iaload, 1) := dn_46 (oo_2 16 rfl rfl)
theorem dL_law_332 : decode cL_law 332 = .ok (.aload_n 0, 1) := dn_42 (oo_2 17 rfl rfl)
theorem dL_law_333 : decode cL_law 333 = .ok (.iload 4, 2) := dn_21 (oo_2 18 rfl rfl) rfl
theorem dL_law_335 : decode cL_law 335 = .ok (.iconst 2, 1) := dn_5 (oo_2 20 rfl rfl)
theorem dL_law_336 : decode cL_law 336 = .ok (.iadd, 1) := dn_96 (oo_2 21 rfl rfl)
theorem dL_law_337 : decode cL_law 337 = .ok (.iaload, 1) := dn_46 (oo_2 22 rfl rfl)
theorem dL_law_338 : decode cL_law 338 = .ok (.aload_n 0, 1) := dn_42 (oo_2 23 rfl rfl)
theorem dL_law_339 : decode cL_law 339 = .ok (.iload 4, 2) := dn_21 (oo_2 24 rfl rfl) rfl
theorem dL_law_341 : decode cL_law 341 = .ok (.iconst 3, 1) := dn_6 (oo_2 26 rfl rfl)
theorem dL_law_342 : decode cL_law 342 = .ok (.iadd, 1) := dn_96 (oo_2 27 rfl rfl)
theorem dL_law_343 : decode cL_law 343 = .ok (.iaload, 1) := dn_46 (oo_2 28 rfl rfl)
theorem dL_law_344 : decode cL_law 344 = .ok (.aload_n 3, 1) := dn_45 (oo_2 29 rfl rfl)
theorem dL_law_345 : decode cL_law 345 = .ok (.invokestatic 186, 3) := dn_184 (oo_2 30 rfl rfl) rfl
theorem dL_law_348 : decode cL_law 348 = .ok (.istore 5, 2) := dn_54 (oo_2 33 rfl rfl) rfl
theorem dL_law_350 : decode cL_law 350 = .ok (.aload_n 2, 1) := dn_44 (oo_2 35 rfl rfl)
theorem dL_law_351 : decode cL_law 351 = .ok (.aload_n 0, 1) := dn_42 (oo_2 36 rfl rfl)
theorem dL_law_352 : decode cL_law 352 = .ok (.iload 4, 2) := dn_21 (oo_2 37 rfl rfl) rfl
theorem dL_law_354 : decode cL_law 354 = .ok (.iconst 1, 1) := dn_4 (oo_2 39 rfl rfl)
theorem dL_law_355 : decode cL_law 355 = .ok (.iadd, 1) := dn_96 (oo_2 40 rfl rfl)
theorem dL_law_356 : decode cL_law 356 = .ok (.iaload, 1) := dn_46 (oo_2 41 rfl rfl)
theorem dL_law_357 : decode cL_law 357 = .ok (.aload_n 0, 1) := dn_42 (oo_2 42 rfl rfl)
theorem dL_law_358 : decode cL_law 358 = .ok (.iload 4, 2) := dn_21 (oo_3 0 rfl rfl) rfl
theorem dL_law_360 : decode cL_law 360 = .ok (.iconst 2, 1) := dn_5 (oo_3 2 rfl rfl)
theorem dL_law_361 : decode cL_law 361 = .ok (.iadd, 1) := dn_96 (oo_3 3 rfl rfl)
theorem dL_law_362 : decode cL_law 362 = .ok (.iaload, 1) := dn_46 (oo_3 4 rfl rfl)
theorem dL_law_363 : decode cL_law 363 = .ok (.aload_n 0, 1) := dn_42 (oo_3 5 rfl rfl)
theorem dL_law_364 : decode cL_law 364 = .ok (.iload 4, 2) := dn_21 (oo_3 6 rfl rfl) rfl
theorem dL_law_366 : decode cL_law 366 = .ok (.iconst 3, 1) := dn_6 (oo_3 8 rfl rfl)
theorem dL_law_367 : decode cL_law 367 = .ok (.iadd, 1) := dn_96 (oo_3 9 rfl rfl)
theorem dL_law_368 : decode cL_law 368 = .ok (.iaload, 1) := dn_46 (oo_3 10 rfl rfl)
theorem dL_law_369 : decode cL_law 369 = .ok (.invokevirtual 189, 3) := dn_182 (oo_3 11 rfl rfl) rfl
theorem dL_law_372 : decode cL_law 372 = .ok (.istore 6, 2) := dn_54 (oo_3 14 rfl rfl) rfl
theorem dL_law_374 : decode cL_law 374 = .ok (.goto 1870, 3) := dn_167 (oo_3 16 rfl rfl) (by decide +kernel)
theorem dL_law_377 : decode cL_law 377 = .ok (.aload_n 1, 1) := dn_43 (oo_3 19 rfl rfl)
theorem dL_law_378 : decode cL_law 378 = .ok (.aload_n 0, 1) := dn_42 (oo_3 20 rfl rfl)
theorem dL_law_379 : decode cL_law 379 = .ok (.iload 4, 2) := dn_21 (oo_3 21 rfl rfl) rfl
theorem dL_law_381 : decode cL_law 381 = .ok (.iconst 1, 1) := dn_4 (oo_3 23 rfl rfl)
theorem dL_law_382 : decode cL_law 382 = .ok (.iadd, 1) := dn_96 (oo_3 24 rfl rfl)
theorem dL_law_383 : decode cL_law 383 = .ok (.iaload, 1) := dn_46 (oo_3 25 rfl rfl)
theorem dL_law_384 : decode cL_law 384 = .ok (.aload_n 0, 1) := dn_42 (oo_3 26 rfl rfl)
theorem dL_law_385 : decode cL_law 385 = .ok (.iload 4, 2) := dn_21 (oo_3 27 rfl rfl) rfl
theorem dL_law_387 : decode cL_law 387 = .ok (.iconst 2, 1) := dn_5 (oo_3 29 rfl rfl)
theorem dL_law_388 : decode cL_law 388 = .ok (.iadd, 1) := dn_96 (oo_3 30 rfl rfl)
theorem dL_law_389 : decode cL_law 389 = .ok (.iaload, 1) := dn_46 (oo_3 31 rfl rfl)
theorem dL_law_390 : decode cL_law 390 = .ok (.aload_n 0, 1) := dn_42 (oo_3 32 rfl rfl)
theorem dL_law_391 : decode cL_law 391 = .ok (.iload 4, 2) := dn_21 (oo_3 33 rfl rfl) rfl
theorem dL_law_393 : decode cL_law 393 = .ok (.iconst 3, 1) := dn_6 (oo_3 35 rfl rfl)
theorem dL_law_394 : decode cL_law 394 = .ok (.iadd, 1) := dn_96 (oo_3 36 rfl rfl)
theorem dL_law_395 : decode cL_law 395 = .ok (.iaload, 1) := dn_46 (oo_3 37 rfl rfl)
theorem dL_law_396 : decode cL_law 396 = .ok (.aload_n 3, 1) := dn_45 (oo_3 38 rfl rfl)
theorem dL_law_397 : decode cL_law 397 = .ok (.invokestatic 190, 3) := dn_184 (oo_3 39 rfl rfl) rfl
theorem dL_law_400 : decode cL_law 400 = .ok (.istore 5, 2) := dn_54 (oo_3 42 rfl rfl) rfl
theorem dL_law_402 : decode cL_law 402 = .ok (.aload_n 2, 1) := dn_44 (oo_3 44 rfl rfl)
theorem dL_law_403 : decode cL_law 403 = .ok (.aload_n 0, 1) := dn_42 (oo_4 0 rfl rfl)
theorem dL_law_404 : decode cL_law 404 = .ok (.iload 4, 2) := dn_21 (oo_4 1 rfl rfl) rfl
theorem dL_law_406 : decode cL_law 406 = .ok (.iconst 1, 1) := dn_4 (oo_4 3 rfl rfl)
theorem dL_law_407 : decode cL_law 407 = .ok (.iadd, 1) := dn_96 (oo_4 4 rfl rfl)
theorem dL_law_408 : decode cL_law 408 = .ok (.iaload, 1) := dn_46 (oo_4 5 rfl rfl)
theorem dL_law_409 : decode cL_law 409 = .ok (.aload_n 0, 1) := dn_42 (oo_4 6 rfl rfl)
theorem dL_law_410 : decode cL_law 410 = .ok (.iload 4, 2) := dn_21 (oo_4 7 rfl rfl) rfl
theorem dL_law_412 : decode cL_law 412 = .ok (.iconst 2, 1) := dn_5 (oo_4 9 rfl rfl)
theorem dL_law_413 : decode cL_law 413 = .ok (.iadd, 1) := dn_96 (oo_4 10 rfl rfl)
theorem dL_law_414 : decode cL_law 414 = .ok (.iaload, 1) := dn_46 (oo_4 11 rfl rfl)
theorem dL_law_415 : decode cL_law 415 = .ok (.aload_n 0, 1) := dn_42 (oo_4 12 rfl rfl)
theorem dL_law_416 : decode cL_law 416 = .ok (.iload 4, 2) := dn_21 (oo_4 13 rfl rfl) rfl
theorem dL_law_418 : decode cL_law 418 = .ok (.iconst 3, 1) := dn_6 (oo_4 15 rfl rfl)
theorem dL_law_419 : decode cL_law 419 = .ok (.iadd, 1) := dn_96 (oo_4 16 rfl rfl)
theorem dL_law_420 : decode cL_law 420 = .ok (.iaload, 1) := dn_46 (oo_4 17 rfl rfl)
theorem dL_law_421 : decode cL_law 421 = .ok (.invokevirtual 192, 3) := dn_182 (oo_4 18 rfl rfl) rfl
theorem dL_law_424 : decode cL_law 424 = .ok (.istore 6, 2) := dn_54 (oo_4 21 rfl rfl) rfl
theorem dL_law_426 : decode cL_law 426 = .ok (.goto 1818, 3) := dn_167 (oo_4 23 rfl rfl) (by decide +kernel)
theorem dL_law_429 : decode cL_law 429 = .ok (.aload_n 1, 1) := dn_43 (oo_4 26 rfl rfl)
theorem dL_law_430 : decode cL_law 430 = .ok (.aload_n 0, 1) := dn_42 (oo_4 27 rfl rfl)
theorem dL_law_431 : decode cL_law 431 = .ok (.iload 4, 2) := dn_21 (oo_4 28 rfl rfl) rfl
theorem dL_law_433 : decode cL_law 433 = .ok (.iconst 1, 1) := dn_4 (oo_4 30 rfl rfl)
theorem dL_law_434 : decode cL_law 434 = .ok (.iadd, 1) := dn_96 (oo_4 31 rfl rfl)
theorem dL_law_435 : decode cL_law 435 = .ok (.iaload, 1) := dn_46 (oo_4 32 rfl rfl)
theorem dL_law_436 : decode cL_law 436 = .ok (.aload_n 0, 1) := dn_42 (oo_4 33 rfl rfl)
theorem dL_law_437 : decode cL_law 437 = .ok (.iload 4, 2) := dn_21 (oo_4 34 rfl rfl) rfl
theorem dL_law_439 : decode cL_law 439 = .ok (.iconst 2, 1) := dn_5 (oo_4 36 rfl rfl)
theorem dL_law_440 : decode cL_law 440 = .ok (.iadd, 1) := dn_96 (oo_4 37 rfl rfl)
theorem dL_law_441 : decode cL_law 441 = .ok (.iaload, 1) := dn_46 (oo_4 38 rfl rfl)
theorem dL_law_442 : decode cL_law 442 = .ok (.aload_n 3, 1) := dn_45 (oo_4 39 rfl rfl)
theorem dL_law_443 : decode cL_law 443 = .ok (.invokestatic 193, 3) := dn_184 (oo_4 40 rfl rfl) rfl
theorem dL_law_446 : decode cL_law 446 = .ok (.istore 5, 2) := dn_54 (oo_4 43 rfl rfl) rfl
theorem dL_law_448 : decode cL_law 448 = .ok (.aload_n 2, 1) := dn_44 (oo_5 0 rfl rfl)
theorem dL_law_449 : decode cL_law 449 = .ok (.aload_n 0, 1) := dn_42 (oo_5 1 rfl rfl)
theorem dL_law_450 : decode cL_law 450 = .ok (.iload 4, 2) := dn_21 (oo_5 2 rfl rfl) rfl
theorem dL_law_452 : decode cL_law 452 = .ok (.iconst 1, 1) := dn_4 (oo_5 4 rfl rfl)
theorem dL_law_453 : decode cL_law 453 = .ok (.iadd, 1) := dn_96 (oo_5 5 rfl rfl)
theorem dL_law_454 : decode cL_law 454 = .ok (.iaload, 1) := dn_46 (oo_5 6 rfl rfl)
theorem dL_law_455 : decode cL_law 455 = .ok (.aload_n 0, 1) := dn_42 (oo_5 7 rfl rfl)
theorem dL_law_456 : decode cL_law 456 = .ok (.iload 4, 2) := dn_21 (oo_5 8 rfl rfl) rfl
theorem dL_law_458 : decode cL_law 458 = .ok (.iconst 2, 1) := dn_5 (oo_5 10 rfl rfl)
theorem dL_law_459 : decode cL_law 459 = .ok (.iadd, 1) := dn_96 (oo_5 11 rfl rfl)
theorem dL_law_460 : decode cL_law 460 = .ok (.iaload, 1) := dn_46 (oo_5 12 rfl rfl)
theorem dL_law_461 : decode cL_law 461 = .ok (.invokevirtual 195, 3) := dn_182 (oo_5 13 rfl rfl) rfl
theorem dL_law_464 : decode cL_law 464 = .ok (.istore 6, 2) := dn_54 (oo_5 16 rfl rfl) rfl
theorem dL_law_466 : decode cL_law 466 = .ok (.goto 1778, 3) := dn_167 (oo_5 18 rfl rfl) (by decide +kernel)
theorem dL_law_469 : decode cL_law 469 = .ok (.aload_n 1, 1) := dn_43 (oo_5 21 rfl rfl)
theorem dL_law_470 : decode cL_law 470 = .ok (.aload_n 0, 1) := dn_42 (oo_5 22 rfl rfl)
theorem dL_law_471 : decode cL_law 471 = .ok (.iload 4, 2) := dn_21 (oo_5 23 rfl rfl) rfl
theorem dL_law_473 : decode cL_law 473 = .ok (.iconst 1, 1) := dn_4 (oo_5 25 rfl rfl)
theorem dL_law_474 : decode cL_law 474 = .ok (.iadd, 1) := dn_96 (oo_5 26 rfl rfl)
theorem dL_law_475 : decode cL_law 475 = .ok (.iaload, 1) := dn_46 (oo_5 27 rfl rfl)
theorem dL_law_476 : decode cL_law 476 = .ok (.aload_n 3, 1) := dn_45 (oo_5 28 rfl rfl)
theorem dL_law_477 : decode cL_law 477 = .ok (.invokestatic 196, 3) := dn_184 (oo_5 29 rfl rfl) rfl
theorem dL_law_480 : decode cL_law 480 = .ok (.istore 5, 2) := dn_54 (oo_5 32 rfl rfl) rfl
theorem dL_law_482 : decode cL_law 482 = .ok (.aload_n 2, 1) := dn_44 (oo_5 34 rfl rfl)
theorem dL_law_483 : decode cL_law 483 = .ok (.aload_n 0, 1) := dn_42 (oo_5 35 rfl rfl)
theorem dL_law_484 : decode cL_law 484 = .ok (.iload 4, 2) := dn_21 (oo_5 36 rfl rfl) rfl
theorem dL_law_486 : decode cL_law 486 = .ok (.iconst 1, 1) := dn_4 (oo_5 38 rfl rfl)
theorem dL_law_487 : decode cL_law 487 = .ok (.iadd, 1) := dn_96 (oo_5 39 rfl rfl)
theorem dL_law_488 : decode cL_law 488 = .ok (.iaload, 1) := dn_46 (oo_5 40 rfl rfl)
theorem dL_law_489 : decode cL_law 489 = .ok (.invokevirtual 199, 3) := dn_182 (oo_5 41 rfl rfl) rfl
theorem dL_law_492 : decode cL_law 492 = .ok (.istore 6, 2) := dn_54 (oo_5 44 rfl rfl) rfl
theorem dL_law_494 : decode cL_law 494 = .ok (.goto 1750, 3) := dn_167 (oo_5 46 rfl rfl) (by decide +kernel)
theorem dL_law_497 : decode cL_law 497 = .ok (.aload_n 1, 1) := dn_43 (oo_6 0 rfl rfl)
theorem dL_law_498 : decode cL_law 498 = .ok (.aload_n 0, 1) := dn_42 (oo_6 1 rfl rfl)
theorem dL_law_499 : decode cL_law 499 = .ok (.iload 4, 2) := dn_21 (oo_6 2 rfl rfl) rfl
theorem dL_law_501 : decode cL_law 501 = .ok (.iconst 1, 1) := dn_4 (oo_6 4 rfl rfl)
theorem dL_law_502 : decode cL_law 502 = .ok (.iadd, 1) := dn_96 (oo_6 5 rfl rfl)
theorem dL_law_503 : decode cL_law 503 = .ok (.iaload, 1) := dn_46 (oo_6 6 rfl rfl)
theorem dL_law_504 : decode cL_law 504 = .ok (.aload_n 0, 1) := dn_42 (oo_6 7 rfl rfl)
theorem dL_law_505 : decode cL_law 505 = .ok (.iload 4, 2) := dn_21 (oo_6 8 rfl rfl) rfl
theorem dL_law_507 : decode cL_law 507 = .ok (.iconst 2, 1) := dn_5 (oo_6 10 rfl rfl)
theorem dL_law_508 : decode cL_law 508 = .ok (.iadd, 1) := dn_96 (oo_6 11 rfl rfl)
theorem dL_law_509 : decode cL_law 509 = .ok (.iaload, 1) := dn_46 (oo_6 12 rfl rfl)
theorem dL_law_510 : decode cL_law 510 = .ok (.aload_n 3, 1) := dn_45 (oo_6 13 rfl rfl)
theorem dL_law_511 : decode cL_law 511 = .ok (.invokestatic 200, 3) := dn_184 (oo_6 14 rfl rfl) rfl
theorem dL_law_514 : decode cL_law 514 = .ok (.istore 5, 2) := dn_54 (oo_6 17 rfl rfl) rfl
theorem dL_law_516 : decode cL_law 516 = .ok (.aload_n 2, 1) := dn_44 (oo_6 19 rfl rfl)
theorem dL_law_517 : decode cL_law 517 = .ok (.aload_n 0, 1) := dn_42 (oo_6 20 rfl rfl)
theorem dL_law_518 : decode cL_law 518 = .ok (.iload 4, 2) := dn_21 (oo_6 21 rfl rfl) rfl
theorem dL_law_520 : decode cL_law 520 = .ok (.iconst 1, 1) := dn_4 (oo_6 23 rfl rfl)
theorem dL_law_521 : decode cL_law 521 = .ok (.iadd, 1) := dn_96 (oo_6 24 rfl rfl)
theorem dL_law_522 : decode cL_law 522 = .ok (.iaload, 1) := dn_46 (oo_6 25 rfl rfl)
theorem dL_law_523 : decode cL_law 523 = .ok (.aload_n 0, 1) := dn_42 (oo_6 26 rfl rfl)
theorem dL_law_524 : decode cL_law 524 = .ok (.iload 4, 2) := dn_21 (oo_6 27 rfl rfl) rfl
theorem dL_law_526 : decode cL_law 526 = .ok (.iconst 2, 1) := dn_5 (oo_6 29 rfl rfl)
theorem dL_law_527 : decode cL_law 527 = .ok (.iadd, 1) := dn_96 (oo_6 30 rfl rfl)
theorem dL_law_528 : decode cL_law 528 = .ok (.iaload, 1) := dn_46 (oo_6 31 rfl rfl)
theorem dL_law_529 : decode cL_law 529 = .ok (.invokevirtual 202, 3) := dn_182 (oo_6 32 rfl rfl) rfl
theorem dL_law_532 : decode cL_law 532 = .ok (.istore 6, 2) := dn_54 (oo_6 35 rfl rfl) rfl
theorem dL_law_534 : decode cL_law 534 = .ok (.goto 1710, 3) := dn_167 (oo_6 37 rfl rfl) (by decide +kernel)
theorem dL_law_537 : decode cL_law 537 = .ok (.aload_n 1, 1) := dn_43 (oo_6 40 rfl rfl)
theorem dL_law_538 : decode cL_law 538 = .ok (.aload_n 0, 1) := dn_42 (oo_6 41 rfl rfl)
theorem dL_law_539 : decode cL_law 539 = .ok (.iload 4, 2) := dn_21 (oo_6 42 rfl rfl) rfl
theorem dL_law_541 : decode cL_law 541 = .ok (.iconst 1, 1) := dn_4 (oo_6 44 rfl rfl)
theorem dL_law_542 : decode cL_law 542 = .ok (.iadd, 1) := dn_96 (oo_7 0 rfl rfl)
theorem dL_law_543 : decode cL_law 543 = .ok (.iaload, 1) := dn_46 (oo_7 1 rfl rfl)
theorem dL_law_544 : decode cL_law 544 = .ok (.aload_n 0, 1) := dn_42 (oo_7 2 rfl rfl)
theorem dL_law_545 : decode cL_law 545 = .ok (.iload 4, 2) := dn_21 (oo_7 3 rfl rfl) rfl
theorem dL_law_547 : decode cL_law 547 = .ok (.iconst 2, 1) := dn_5 (oo_7 5 rfl rfl)
theorem dL_law_548 : decode cL_law 548 = .ok (.iadd, 1) := dn_96 (oo_7 6 rfl rfl)
theorem dL_law_549 : decode cL_law 549 = .ok (.iaload, 1) := dn_46 (oo_7 7 rfl rfl)
theorem dL_law_550 : decode cL_law 550 = .ok (.aload_n 3, 1) := dn_45 (oo_7 8 rfl rfl)
theorem dL_law_551 : decode cL_law 551 = .ok (.invokestatic 203, 3) := dn_184 (oo_7 9 rfl rfl) rfl
theorem dL_law_554 : decode cL_law 554 = .ok (.istore 5, 2) := dn_54 (oo_7 12 rfl rfl) rfl
theorem dL_law_556 : decode cL_law 556 = .ok (.aload_n 2, 1) := dn_44 (oo_7 14 rfl rfl)
theorem dL_law_557 : decode cL_law 557 = .ok (.aload_n 0, 1) := dn_42 (oo_7 15 rfl rfl)
theorem dL_law_558 : decode cL_law 558 = .ok (.iload 4, 2) := dn_21 (oo_7 16 rfl rfl) rfl
theorem dL_law_560 : decode cL_law 560 = .ok (.iconst 1, 1) := dn_4 (oo_7 18 rfl rfl)
theorem dL_law_561 : decode cL_law 561 = .ok (.iadd, 1) := dn_96 (oo_7 19 rfl rfl)
theorem dL_law_562 : decode cL_law 562 = .ok (.iaload, 1) := dn_46 (oo_7 20 rfl rfl)
theorem dL_law_563 : decode cL_law 563 = .ok (.aload_n 0, 1) := dn_42 (oo_7 21 rfl rfl)
theorem dL_law_564 : decode cL_law 564 = .ok (.iload 4, 2) := dn_21 (oo_7 22 rfl rfl) rfl
theorem dL_law_566 : decode cL_law 566 = .ok (.iconst 2, 1) := dn_5 (oo_7 24 rfl rfl)
theorem dL_law_567 : decode cL_law 567 = .ok (.iadd, 1) := dn_96 (oo_7 25 rfl rfl)
theorem dL_law_568 : decode cL_law 568 = .ok (.iaload, 1) := dn_46 (oo_7 26 rfl rfl)
theorem dL_law_569 : decode cL_law 569 = .ok (.invokevirtual 205, 3) := dn_182 (oo_7 27 rfl rfl) rfl
theorem dL_law_572 : decode cL_law 572 = .ok (.istore 6, 2) := dn_54 (oo_7 30 rfl rfl) rfl
theorem dL_law_574 : decode cL_law 574 = .ok (.goto 1670, 3) := dn_167 (oo_7 32 rfl rfl) (by decide +kernel)
theorem dL_law_577 : decode cL_law 577 = .ok (.aload_n 1, 1) := dn_43 (oo_7 35 rfl rfl)
theorem dL_law_578 : decode cL_law 578 = .ok (.aload_n 0, 1) := dn_42 (oo_7 36 rfl rfl)
theorem dL_law_579 : decode cL_law 579 = .ok (.iload 4, 2) := dn_21 (oo_7 37 rfl rfl) rfl
theorem dL_law_581 : decode cL_law 581 = .ok (.iconst 1, 1) := dn_4 (oo_7 39 rfl rfl)
theorem dL_law_582 : decode cL_law 582 = .ok (.iadd, 1) := dn_96 (oo_7 40 rfl rfl)
theorem dL_law_583 : decode cL_law 583 = .ok (.iaload, 1) := dn_46 (oo_7 41 rfl rfl)
theorem dL_law_584 : decode cL_law 584 = .ok (.aload_n 3, 1) := dn_45 (oo_7 42 rfl rfl)
theorem dL_law_585 : decode cL_law 585 = .ok (.invokestatic 206, 3) := dn_184 (oo_7 43 rfl rfl) rfl
theorem dL_law_588 : decode cL_law 588 = .ok (.istore 5, 2) := dn_54 (oo_8 0 rfl rfl) rfl
theorem dL_law_590 : decode cL_law 590 = .ok (.aload_n 2, 1) := dn_44 (oo_8 2 rfl rfl)
theorem dL_law_591 : decode cL_law 591 = .ok (.aload_n 0, 1) := dn_42 (oo_8 3 rfl rfl)
theorem dL_law_592 : decode cL_law 592 = .ok (.iload 4, 2) := dn_21 (oo_8 4 rfl rfl) rfl
theorem dL_law_594 : decode cL_law 594 = .ok (.iconst 1, 1) := dn_4 (oo_8 6 rfl rfl)
theorem dL_law_595 : decode cL_law 595 = .ok (.iadd, 1) := dn_96 (oo_8 7 rfl rfl)
theorem dL_law_596 : decode cL_law 596 = .ok (.iaload, 1) := dn_46 (oo_8 8 rfl rfl)
theorem dL_law_597 : decode cL_law 597 = .ok (.invokevirtual 208, 3) := dn_182 (oo_8 9 rfl rfl) rfl
theorem dL_law_600 : decode cL_law 600 = .ok (.istore 6, 2) := dn_54 (oo_8 12 rfl rfl) rfl
theorem dL_law_602 : decode cL_law 602 = .ok (.goto 1642, 3) := dn_167 (oo_8 14 rfl rfl) (by decide +kernel)
theorem dL_law_605 : decode cL_law 605 = .ok (.aload_n 1, 1) := dn_43 (oo_8 17 rfl rfl)
theorem dL_law_606 : decode cL_law 606 = .ok (.aload_n 0, 1) := dn_42 (oo_8 18 rfl rfl)
theorem dL_law_607 : decode cL_law 607 = .ok (.iload 4, 2) := dn_21 (oo_8 19 rfl rfl) rfl
theorem dL_law_609 : decode cL_law 609 = .ok (.iconst 1, 1) := dn_4 (oo_8 21 rfl rfl)
theorem dL_law_610 : decode cL_law 610 = .ok (.iadd, 1) := dn_96 (oo_8 22 rfl rfl)
theorem dL_law_611 : decode cL_law 611 = .ok (.iaload, 1) := dn_46 (oo_8 23 rfl rfl)
theorem dL_law_612 : decode cL_law 612 = .ok (.aload_n 0, 1) := dn_42 (oo_8 24 rfl rfl)
theorem dL_law_613 : decode cL_law 613 = .ok (.iload 4, 2) := dn_21 (oo_8 25 rfl rfl) rfl
theorem dL_law_615 : decode cL_law 615 = .ok (.iconst 2, 1) := dn_5 (oo_8 27 rfl rfl)
theorem dL_law_616 : decode cL_law 616 = .ok (.iadd, 1) := dn_96 (oo_8 28 rfl rfl)
theorem dL_law_617 : decode cL_law 617 = .ok (.iaload, 1) := dn_46 (oo_8 29 rfl rfl)
theorem dL_law_618 : decode cL_law 618 = .ok (.aload_n 0, 1) := dn_42 (oo_8 30 rfl rfl)
theorem dL_law_619 : decode cL_law 619 = .ok (.iload 4, 2) := dn_21 (oo_8 31 rfl rfl) rfl
theorem dL_law_621 : decode cL_law 621 = .ok (.iconst 3, 1) := dn_6 (oo_8 33 rfl rfl)
theorem dL_law_622 : decode cL_law 622 = .ok (.iadd, 1) := dn_96 (oo_8 34 rfl rfl)
theorem dL_law_623 : decode cL_law 623 = .ok (.iaload, 1) := dn_46 (oo_8 35 rfl rfl)
theorem dL_law_624 : decode cL_law 624 = .ok (.aload_n 3, 1) := dn_45 (oo_8 36 rfl rfl)
theorem dL_law_625 : decode cL_law 625 = .ok (.invokestatic 209, 3) := dn_184 (oo_8 37 rfl rfl) rfl
theorem dL_law_628 : decode cL_law 628 = .ok (.istore 5, 2) := dn_54 (oo_8 40 rfl rfl) rfl
theorem dL_law_630 : decode cL_law 630 = .ok (.aload_n 2, 1) := dn_44 (oo_8 42 rfl rfl)
theorem dL_law_631 : decode cL_law 631 = .ok (.aload_n 0, 1) := dn_42 (oo_8 43 rfl rfl)
theorem dL_law_632 : decode cL_law 632 = .ok (.iload 4, 2) := dn_21 (oo_8 44 rfl rfl) rfl
theorem dL_law_634 : decode cL_law 634 = .ok (.iconst 1, 1) := dn_4 (oo_9 0 rfl rfl)
theorem dL_law_635 : decode cL_law 635 = .ok (.iadd, 1) := dn_96 (oo_9 1 rfl rfl)
theorem dL_law_636 : decode cL_law 636 = .ok (.iaload, 1) := dn_46 (oo_9 2 rfl rfl)
theorem dL_law_637 : decode cL_law 637 = .ok (.aload_n 0, 1) := dn_42 (oo_9 3 rfl rfl)
theorem dL_law_638 : decode cL_law 638 = .ok (.iload 4, 2) := dn_21 (oo_9 4 rfl rfl) rfl
theorem dL_law_640 : decode cL_law 640 = .ok (.iconst 2, 1) := dn_5 (oo_9 6 rfl rfl)
theorem dL_law_641 : decode cL_law 641 = .ok (.iadd, 1) := dn_96 (oo_9 7 rfl rfl)
theorem dL_law_642 : decode cL_law 642 = .ok (.iaload, 1) := dn_46 (oo_9 8 rfl rfl)
theorem dL_law_643 : decode cL_law 643 = .ok (.aload_n 0, 1) := dn_42 (oo_9 9 rfl rfl)
theorem dL_law_644 : decode cL_law 644 = .ok (.iload 4, 2) := dn_21 (oo_9 10 rfl rfl) rfl
theorem dL_law_646 : decode cL_law 646 = .ok (.iconst 3, 1) := dn_6 (oo_9 12 rfl rfl)
theorem dL_law_647 : decode cL_law 647 = .ok (.iadd, 1) := dn_96 (oo_9 13 rfl rfl)
theorem dL_law_648 : decode cL_law 648 = .ok (.iaload, 1) := dn_46 (oo_9 14 rfl rfl)
theorem dL_law_649 : decode cL_law 649 = .ok (.invokevirtual 211, 3) := dn_182 (oo_9 15 rfl rfl) rfl
theorem dL_law_652 : decode cL_law 652 = .ok (.istore 6, 2) := dn_54 (oo_9 18 rfl rfl) rfl
theorem dL_law_654 : decode cL_law 654 = .ok (.goto 1590, 3) := dn_167 (oo_9 20 rfl rfl) (by decide +kernel)
theorem dL_law_657 : decode cL_law 657 = .ok (.aload_n 1, 1) := dn_43 (oo_9 23 rfl rfl)
theorem dL_law_658 : decode cL_law 658 = .ok (.aload_n 0, 1) := dn_42 (oo_9 24 rfl rfl)
theorem dL_law_659 : decode cL_law 659 = .ok (.iload 4, 2) := dn_21 (oo_9 25 rfl rfl) rfl
theorem dL_law_661 : decode cL_law 661 = .ok (.iconst 1, 1) := dn_4 (oo_9 27 rfl rfl)
theorem dL_law_662 : decode cL_law 662 = .ok (.iadd, 1) := dn_96 (oo_9 28 rfl rfl)
theorem dL_law_663 : decode cL_law 663 = .ok (.iaload, 1) := dn_46 (oo_9 29 rfl rfl)
theorem dL_law_664 : decode cL_law 664 = .ok (.aload_n 0, 1) := dn_42 (oo_9 30 rfl rfl)
theorem dL_law_665 : decode cL_law 665 = .ok (.iload 4, 2) := dn_21 (oo_9 31 rfl rfl) rfl
theorem dL_law_667 : decode cL_law 667 = .ok (.iconst 2, 1) := dn_5 (oo_9 33 rfl rfl)
theorem dL_law_668 : decode cL_law 668 = .ok (.iadd, 1) := dn_96 (oo_9 34 rfl rfl)
theorem dL_law_669 : decode cL_law 669 = .ok (.iaload, 1) := dn_46 (oo_9 35 rfl rfl)
theorem dL_law_670 : decode cL_law 670 = .ok (.aload_n 0, 1) := dn_42 (oo_9 36 rfl rfl)
theorem dL_law_671 : decode cL_law 671 = .ok (.iload 4, 2) := dn_21 (oo_9 37 rfl rfl) rfl
theorem dL_law_673 : decode cL_law 673 = .ok (.iconst 3, 1) := dn_6 (oo_9 39 rfl rfl)
theorem dL_law_674 : decode cL_law 674 = .ok (.iadd, 1) := dn_96 (oo_9 40 rfl rfl)
theorem dL_law_675 : decode cL_law 675 = .ok (.iaload, 1) := dn_46 (oo_9 41 rfl rfl)
theorem dL_law_676 : decode cL_law 676 = .ok (.aload_n 3, 1) := dn_45 (oo_10 0 rfl rfl)
theorem dL_law_677 : decode cL_law 677 = .ok (.invokestatic 212, 3) := dn_184 (oo_10 1 rfl rfl) rfl
theorem dL_law_680 : decode cL_law 680 = .ok (.istore 5, 2) := dn_54 (oo_10 4 rfl rfl) rfl
theorem dL_law_682 : decode cL_law 682 = .ok (.aload_n 2, 1) := dn_44 (oo_10 6 rfl rfl)
theorem dL_law_683 : decode cL_law 683 = .ok (.aload_n 0, 1) := dn_42 (oo_10 7 rfl rfl)
theorem dL_law_684 : decode cL_law 684 = .ok (.iload 4, 2) := dn_21 (oo_10 8 rfl rfl) rfl
theorem dL_law_686 : decode cL_law 686 = .ok (.iconst 1, 1) := dn_4 (oo_10 10 rfl rfl)
theorem dL_law_687 : decode cL_law 687 = .ok (.iadd, 1) := dn_96 (oo_10 11 rfl rfl)
theorem dL_law_688 : decode cL_law 688 = .ok (.iaload, 1) := dn_46 (oo_10 12 rfl rfl)
theorem dL_law_689 : decode cL_law 689 = .ok (.aload_n 0, 1) := dn_42 (oo_10 13 rfl rfl)
theorem dL_law_690 : decode cL_law 690 = .ok (.iload 4, 2) := dn_21 (oo_10 14 rfl rfl) rfl
theorem dL_law_692 : decode cL_law 692 = .ok (.iconst 2, 1) := dn_5 (oo_10 16 rfl rfl)
theorem dL_law_693 : decode cL_law 693 = .ok (.iadd, 1) := dn_96 (oo_10 17 rfl rfl)
theorem dL_law_694 : decode cL_law 694 = .ok (.iaload, 1) := dn_46 (oo_10 18 rfl rfl)
theorem dL_law_695 : decode cL_law 695 = .ok (.aload_n 0, 1) := dn_42 (oo_10 19 rfl rfl)
theorem dL_law_696 : decode cL_law 696 = .ok (.iload 4, 2) := dn_21 (oo_10 20 rfl rfl) rfl
theorem dL_law_698 : decode cL_law 698 = .ok (.iconst 3, 1) := dn_6 (oo_10 22 rfl rfl)
theorem dL_law_699 : decode cL_law 699 = .ok (.iadd, 1) := dn_96 (oo_10 23 rfl rfl)
theorem dL_law_700 : decode cL_law 700 = .ok (.iaload, 1) := dn_46 (oo_10 24 rfl rfl)
theorem dL_law_701 : decode cL_law 701 = .ok (.invokevirtual 214, 3) := dn_182 (oo_10 25 rfl rfl) rfl
theorem dL_law_704 : decode cL_law 704 = .ok (.istore 6, 2) := dn_54 (oo_10 28 rfl rfl) rfl
theorem dL_law_706 : decode cL_law 706 = .ok (.goto 1538, 3) := dn_167 (oo_10 30 rfl rfl) (by decide +kernel)
theorem dL_law_709 : decode cL_law 709 = .ok (.aload_n 1, 1) := dn_43 (oo_10 33 rfl rfl)
theorem dL_law_710 : decode cL_law 710 = .ok (.aload_n 0, 1) := dn_42 (oo_10 34 rfl rfl)
theorem dL_law_711 : decode cL_law 711 = .ok (.iload 4, 2) := dn_21 (oo_10 35 rfl rfl) rfl
theorem dL_law_713 : decode cL_law 713 = .ok (.iconst 1, 1) := dn_4 (oo_10 37 rfl rfl)
theorem dL_law_714 : decode cL_law 714 = .ok (.iadd, 1) := dn_96 (oo_10 38 rfl rfl)
theorem dL_law_715 : decode cL_law 715 = .ok (.iaload, 1) := dn_46 (oo_10 39 rfl rfl)
theorem dL_law_716 : decode cL_law 716 = .ok (.aload_n 0, 1) := dn_42 (oo_10 40 rfl rfl)
theorem dL_law_717 : decode cL_law 717 = .ok (.iload 4, 2) := dn_21 (oo_10 41 rfl rfl) rfl
theorem dL_law_719 : decode cL_law 719 = .ok (.iconst 2, 1) := dn_5 (oo_10 43 rfl rfl)
theorem dL_law_720 : decode cL_law 720 = .ok (.iadd, 1) := dn_96 (oo_10 44 rfl rfl)
theorem dL_law_721 : decode cL_law 721 = .ok (.iaload, 1) := dn_46 (oo_11 0 rfl rfl)
theorem dL_law_722 : decode cL_law 722 = .ok (.aload_n 0, 1) := dn_42 (oo_11 1 rfl rfl)
theorem dL_law_723 : decode cL_law 723 = .ok (.iload 4, 2) := dn_21 (oo_11 2 rfl rfl) rfl
theorem dL_law_725 : decode cL_law 725 = .ok (.iconst 3, 1) := dn_6 (oo_11 4 rfl rfl)
theorem dL_law_726 : decode cL_law 726 = .ok (.iadd, 1) := dn_96 (oo_11 5 rfl rfl)
theorem dL_law_727 : decode cL_law 727 = .ok (.iaload, 1) := dn_46 (oo_11 6 rfl rfl)
theorem dL_law_728 : decode cL_law 728 = .ok (.ifCond .eq 7, 3) := dn_153 (oo_11 7 rfl rfl) (by decide +kernel)
theorem dL_law_731 : decode cL_law 731 = .ok (.iconst 1, 1) := dn_4 (oo_11 10 rfl rfl)
theorem dL_law_732 : decode cL_law 732 = .ok (.goto 4, 3) := dn_167 (oo_11 11 rfl rfl) (by decide +kernel)
theorem dL_law_735 : decode cL_law 735 = .ok (.iconst 0, 1) := dn_3 (oo_11 14 rfl rfl)
theorem dL_law_736 : decode cL_law 736 = .ok (.aload_n 3, 1) := dn_45 (oo_11 15 rfl rfl)
theorem dL_law_737 : decode cL_law 737 = .ok (.invokestatic 215, 3) := dn_184 (oo_11 16 rfl rfl) rfl
theorem dL_law_740 : decode cL_law 740 = .ok (.istore 5, 2) := dn_54 (oo_11 19 rfl rfl) rfl
theorem dL_law_742 : decode cL_law 742 = .ok (.aload_n 2, 1) := dn_44 (oo_11 21 rfl rfl)
theorem dL_law_743 : decode cL_law 743 = .ok (.aload_n 0, 1) := dn_42 (oo_11 22 rfl rfl)
theorem dL_law_744 : decode cL_law 744 = .ok (.iload 4, 2) := dn_21 (oo_11 23 rfl rfl) rfl
theorem dL_law_746 : decode cL_law 746 = .ok (.iconst 1, 1) := dn_4 (oo_11 25 rfl rfl)
theorem dL_law_747 : decode cL_law 747 = .ok (.iadd, 1) := dn_96 (oo_11 26 rfl rfl)
theorem dL_law_748 : decode cL_law 748 = .ok (.iaload, 1) := dn_46 (oo_11 27 rfl rfl)
theorem dL_law_749 : decode cL_law 749 = .ok (.aload_n 0, 1) := dn_42 (oo_11 28 rfl rfl)
theorem dL_law_750 : decode cL_law 750 = .ok (.iload 4, 2) := dn_21 (oo_11 29 rfl rfl) rfl
theorem dL_law_752 : decode cL_law 752 = .ok (.iconst 2, 1) := dn_5 (oo_11 31 rfl rfl)
theorem dL_law_753 : decode cL_law 753 = .ok (.iadd, 1) := dn_96 (oo_11 32 rfl rfl)
theorem dL_law_754 : decode cL_law 754 = .ok (.iaload, 1) := dn_46 (oo_11 33 rfl rfl)
theorem dL_law_755 : decode cL_law 755 = .ok (.aload_n 0, 1) := dn_42 (oo_11 34 rfl rfl)
theorem dL_law_756 : decode cL_law 756 = .ok (.iload 4, 2) := dn_21 (oo_11 35 rfl rfl) rfl
theorem dL_law_758 : decode cL_law 758 = .ok (.iconst 3, 1) := dn_6 (oo_11 37 rfl rfl)
theorem dL_law_759 : decode cL_law 759 = .ok (.iadd, 1) := dn_96 (oo_11 38 rfl rfl)
theorem dL_law_760 : decode cL_law 760 = .ok (.iaload, 1) := dn_46 (oo_11 39 rfl rfl)
theorem dL_law_761 : decode cL_law 761 = .ok (.ifCond .eq 7, 3) := dn_153 (oo_11 40 rfl rfl) (by decide +kernel)
theorem dL_law_764 : decode cL_law 764 = .ok (.iconst 1, 1) := dn_4 (oo_11 43 rfl rfl)
theorem dL_law_765 : decode cL_law 765 = .ok (.goto 4, 3) := dn_167 (oo_11 44 rfl rfl) (by decide +kernel)
theorem dL_law_768 : decode cL_law 768 = .ok (.iconst 0, 1) := dn_3 (oo_12 0 rfl rfl)
theorem dL_law_769 : decode cL_law 769 = .ok (.invokevirtual 218, 3) := dn_182 (oo_12 1 rfl rfl) rfl
theorem dL_law_772 : decode cL_law 772 = .ok (.istore 6, 2) := dn_54 (oo_12 4 rfl rfl) rfl
theorem dL_law_774 : decode cL_law 774 = .ok (.goto 1470, 3) := dn_167 (oo_12 6 rfl rfl) (by decide +kernel)
theorem dL_law_777 : decode cL_law 777 = .ok (.aload_n 1, 1) := dn_43 (oo_12 9 rfl rfl)
theorem dL_law_778 : decode cL_law 778 = .ok (.aload_n 0, 1) := dn_42 (oo_12 10 rfl rfl)
theorem dL_law_779 : decode cL_law 779 = .ok (.iload 4, 2) := dn_21 (oo_12 11 rfl rfl) rfl
theorem dL_law_781 : decode cL_law 781 = .ok (.iconst 1, 1) := dn_4 (oo_12 13 rfl rfl)
theorem dL_law_782 : decode cL_law 782 = .ok (.iadd, 1) := dn_96 (oo_12 14 rfl rfl)
theorem dL_law_783 : decode cL_law 783 = .ok (.iaload, 1) := dn_46 (oo_12 15 rfl rfl)
theorem dL_law_784 : decode cL_law 784 = .ok (.aload_n 0, 1) := dn_42 (oo_12 16 rfl rfl)
theorem dL_law_785 : decode cL_law 785 = .ok (.iload 4, 2) := dn_21 (oo_12 17 rfl rfl) rfl
theorem dL_law_787 : decode cL_law 787 = .ok (.iconst 2, 1) := dn_5 (oo_12 19 rfl rfl)
theorem dL_law_788 : decode cL_law 788 = .ok (.iadd, 1) := dn_96 (oo_12 20 rfl rfl)
theorem dL_law_789 : decode cL_law 789 = .ok (.iaload, 1) := dn_46 (oo_12 21 rfl rfl)
theorem dL_law_790 : decode cL_law 790 = .ok (.aload_n 0, 1) := dn_42 (oo_12 22 rfl rfl)
theorem dL_law_791 : decode cL_law 791 = .ok (.iload 4, 2) := dn_21 (oo_12 23 rfl rfl) rfl
theorem dL_law_793 : decode cL_law 793 = .ok (.iconst 3, 1) := dn_6 (oo_12 25 rfl rfl)
theorem dL_law_794 : decode cL_law 794 = .ok (.iadd, 1) := dn_96 (oo_12 26 rfl rfl)
theorem dL_law_795 : decode cL_law 795 = .ok (.iaload, 1) := dn_46 (oo_12 27 rfl rfl)
theorem dL_law_796 : decode cL_law 796 = .ok (.ifCond .eq 7, 3) := dn_153 (oo_12 28 rfl rfl) (by decide +kernel)
theorem dL_law_799 : decode cL_law 799 = .ok (.iconst 1, 1) := dn_4 (oo_12 31 rfl rfl)
theorem dL_law_800 : decode cL_law 800 = .ok (.goto 4, 3) := dn_167 (oo_12 32 rfl rfl) (by decide +kernel)
theorem dL_law_803 : decode cL_law 803 = .ok (.iconst 0, 1) := dn_3 (oo_12 35 rfl rfl)
theorem dL_law_804 : decode cL_law 804 = .ok (.aload_n 3, 1) := dn_45 (oo_12 36 rfl rfl)
theorem dL_law_805 : decode cL_law 805 = .ok (.invokestatic 219, 3) := dn_184 (oo_12 37 rfl rfl) rfl
theorem dL_law_808 : decode cL_law 808 = .ok (.istore 5, 2) := dn_54 (oo_12 40 rfl rfl) rfl
theorem dL_law_810 : decode cL_law 810 = .ok (.aload_n 2, 1) := dn_44 (oo_12 42 rfl rfl)
theorem dL_law_811 : decode cL_law 811 = .ok (.aload_n 0, 1) := dn_42 (oo_12 43 rfl rfl)
theorem dL_law_812 : decode cL_law 812 = .ok (.iload 4, 2) := dn_21 (oo_12 44 rfl rfl) rfl
theorem dL_law_814 : decode cL_law 814 = .ok (.iconst 1, 1) := dn_4 (oo_12 46 rfl rfl)
theorem dL_law_815 : decode cL_law 815 = .ok (.iadd, 1) := dn_96 (oo_12 47 rfl rfl)
theorem dL_law_816 : decode cL_law 816 = .ok (.iaload, 1) := dn_46 (oo_13 0 rfl rfl)
theorem dL_law_817 : decode cL_law 817 = .ok (.aload_n 0, 1) := dn_42 (oo_13 1 rfl rfl)
theorem dL_law_818 : decode cL_law 818 = .ok (.iload 4, 2) := dn_21 (oo_13 2 rfl rfl) rfl
theorem dL_law_820 : decode cL_law 820 = .ok (.iconst 2, 1) := dn_5 (oo_13 4 rfl rfl)
theorem dL_law_821 : decode cL_law 821 = .ok (.iadd, 1) := dn_96 (oo_13 5 rfl rfl)
theorem dL_law_822 : decode cL_law 822 = .ok (.iaload, 1) := dn_46 (oo_13 6 rfl rfl)
theorem dL_law_823 : decode cL_law 823 = .ok (.aload_n 0, 1) := dn_42 (oo_13 7 rfl rfl)
theorem dL_law_824 : decode cL_law 824 = .ok (.iload 4, 2) := dn_21 (oo_13 8 rfl rfl) rfl
theorem dL_law_826 : decode cL_law 826 = .ok (.iconst 3, 1) := dn_6 (oo_13 10 rfl rfl)
theorem dL_law_827 : decode cL_law 827 = .ok (.iadd, 1) := dn_96 (oo_13 11 rfl rfl)
theorem dL_law_828 : decode cL_law 828 = .ok (.iaload, 1) := dn_46 (oo_13 12 rfl rfl)
theorem dL_law_829 : decode cL_law 829 = .ok (.ifCond .eq 7, 3) := dn_153 (oo_13 13 rfl rfl) (by decide +kernel)
theorem dL_law_832 : decode cL_law 832 = .ok (.iconst 1, 1) := dn_4 (oo_13 16 rfl rfl)
theorem dL_law_833 : decode cL_law 833 = .ok (.goto 4, 3) := dn_167 (oo_13 17 rfl rfl) (by decide +kernel)
theorem dL_law_836 : decode cL_law 836 = .ok (.iconst 0, 1) := dn_3 (oo_13 20 rfl rfl)
theorem dL_law_837 : decode cL_law 837 = .ok (.invokevirtual 221, 3) := dn_182 (oo_13 21 rfl rfl) rfl
theorem dL_law_840 : decode cL_law 840 = .ok (.istore 6, 2) := dn_54 (oo_13 24 rfl rfl) rfl
theorem dL_law_842 : decode cL_law 842 = .ok (.goto 1402, 3) := dn_167 (oo_13 26 rfl rfl) (by decide +kernel)
theorem dL_law_845 : decode cL_law 845 = .ok (.aload_n 1, 1) := dn_43 (oo_13 29 rfl rfl)
theorem dL_law_846 : decode cL_law 846 = .ok (.aload_n 0, 1) := dn_42 (oo_13 30 rfl rfl)
theorem dL_law_847 : decode cL_law 847 = .ok (.iload 4, 2) := dn_21 (oo_13 31 rfl rfl) rfl
theorem dL_law_849 : decode cL_law 849 = .ok (.iconst 1, 1) := dn_4 (oo_13 33 rfl rfl)
theorem dL_law_850 : decode cL_law 850 = .ok (.iadd, 1) := dn_96 (oo_13 34 rfl rfl)
theorem dL_law_851 : decode cL_law 851 = .ok (.iaload, 1) := dn_46 (oo_13 35 rfl rfl)
theorem dL_law_852 : decode cL_law 852 = .ok (.aload_n 0, 1) := dn_42 (oo_13 36 rfl rfl)
theorem dL_law_853 : decode cL_law 853 = .ok (.iload 4, 2) := dn_21 (oo_13 37 rfl rfl) rfl
theorem dL_law_855 : decode cL_law 855 = .ok (.iconst 2, 1) := dn_5 (oo_13 39 rfl rfl)
theorem dL_law_856 : decode cL_law 856 = .ok (.iadd, 1) := dn_96 (oo_13 40 rfl rfl)
theorem dL_law_857 : decode cL_law 857 = .ok (.iaload, 1) := dn_46 (oo_13 41 rfl rfl)
theorem dL_law_858 : decode cL_law 858 = .ok (.aload_n 0, 1) := dn_42 (oo_13 42 rfl rfl)
theorem dL_law_859 : decode cL_law 859 = .ok (.iload 4, 2) := dn_21 (oo_13 43 rfl rfl) rfl
theorem dL_law_861 : decode cL_law 861 = .ok (.iconst 3, 1) := dn_6 (oo_13 45 rfl rfl)
theorem dL_law_862 : decode cL_law 862 = .ok (.iadd, 1) := dn_96 (oo_14 0 rfl rfl)
theorem dL_law_863 : decode cL_law 863 = .ok (.iaload, 1) := dn_46 (oo_14 1 rfl rfl)
theorem dL_law_864 : decode cL_law 864 = .ok (.aload_n 3, 1) := dn_45 (oo_14 2 rfl rfl)
theorem dL_law_865 : decode cL_law 865 = .ok (.invokestatic 222, 3) := dn_184 (oo_14 3 rfl rfl) rfl
theorem dL_law_868 : decode cL_law 868 = .ok (.istore 5, 2) := dn_54 (oo_14 6 rfl rfl) rfl
theorem dL_law_870 : decode cL_law 870 = .ok (.aload_n 2, 1) := dn_44 (oo_14 8 rfl rfl)
theorem dL_law_871 : decode cL_law 871 = .ok (.aload_n 0, 1) := dn_42 (oo_14 9 rfl rfl)
theorem dL_law_872 : decode cL_law 872 = .ok (.iload 4, 2) := dn_21 (oo_14 10 rfl rfl) rfl
theorem dL_law_874 : decode cL_law 874 = .ok (.iconst 1, 1) := dn_4 (oo_14 12 rfl rfl)
theorem dL_law_875 : decode cL_law 875 = .ok (.iadd, 1) := dn_96 (oo_14 13 rfl rfl)
theorem dL_law_876 : decode cL_law 876 = .ok (.iaload, 1) := dn_46 (oo_14 14 rfl rfl)
theorem dL_law_877 : decode cL_law 877 = .ok (.aload_n 0, 1) := dn_42 (oo_14 15 rfl rfl)
theorem dL_law_878 : decode cL_law 878 = .ok (.iload 4, 2) := dn_21 (oo_14 16 rfl rfl) rfl
theorem dL_law_880 : decode cL_law 880 = .ok (.iconst 2, 1) := dn_5 (oo_14 18 rfl rfl)
theorem dL_law_881 : decode cL_law 881 = .ok (.iadd, 1) := dn_96 (oo_14 19 rfl rfl)
theorem dL_law_882 : decode cL_law 882 = .ok (.iaload, 1) := dn_46 (oo_14 20 rfl rfl)
theorem dL_law_883 : decode cL_law 883 = .ok (.aload_n 0, 1) := dn_42 (oo_14 21 rfl rfl)
theorem dL_law_884 : decode cL_law 884 = .ok (.iload 4, 2) := dn_21 (oo_14 22 rfl rfl) rfl
theorem dL_law_886 : decode cL_law 886 = .ok (.iconst 3, 1) := dn_6 (oo_14 24 rfl rfl)
theorem dL_law_887 : decode cL_law 887 = .ok (.iadd, 1) := dn_96 (oo_14 25 rfl rfl)
theorem dL_law_888 : decode cL_law 888 = .ok (.iaload, 1) := dn_46 (oo_14 26 rfl rfl)
theorem dL_law_889 : decode cL_law 889 = .ok (.invokevirtual 224, 3) := dn_182 (oo_14 27 rfl rfl) rfl
theorem dL_law_892 : decode cL_law 892 = .ok (.istore 6, 2) := dn_54 (oo_14 30 rfl rfl) rfl
theorem dL_law_894 : decode cL_law 894 = .ok (.goto 1350, 3) := dn_167 (oo_14 32 rfl rfl) (by decide +kernel)
theorem dL_law_897 : decode cL_law 897 = .ok (.aload_n 1, 1) := dn_43 (oo_14 35 rfl rfl)
theorem dL_law_898 : decode cL_law 898 = .ok (.aload_n 0, 1) := dn_42 (oo_14 36 rfl rfl)
theorem dL_law_899 : decode cL_law 899 = .ok (.iload 4, 2) := dn_21 (oo_14 37 rfl rfl) rfl
theorem dL_law_901 : decode cL_law 901 = .ok (.iconst 1, 1) := dn_4 (oo_14 39 rfl rfl)
theorem dL_law_902 : decode cL_law 902 = .ok (.iadd, 1) := dn_96 (oo_14 40 rfl rfl)
theorem dL_law_903 : decode cL_law 903 = .ok (.iaload, 1) := dn_46 (oo_14 41 rfl rfl)
theorem dL_law_904 : decode cL_law 904 = .ok (.aload_n 3, 1) := dn_45 (oo_14 42 rfl rfl)
theorem dL_law_905 : decode cL_law 905 = .ok (.invokestatic 225, 3) := dn_184 (oo_14 43 rfl rfl) rfl
theorem dL_law_908 : decode cL_law 908 = .ok (.istore 5, 2) := dn_54 (oo_15 0 rfl rfl) rfl
theorem dL_law_910 : decode cL_law 910 = .ok (.aload_n 2, 1) := dn_44 (oo_15 2 rfl rfl)
theorem dL_law_911 : decode cL_law 911 = .ok (.aload_n 0, 1) := dn_42 (oo_15 3 rfl rfl)
theorem dL_law_912 : decode cL_law 912 = .ok (.iload 4, 2) := dn_21 (oo_15 4 rfl rfl) rfl
theorem dL_law_914 : decode cL_law 914 = .ok (.iconst 1, 1) := dn_4 (oo_15 6 rfl rfl)
theorem dL_law_915 : decode cL_law 915 = .ok (.iadd, 1) := dn_96 (oo_15 7 rfl rfl)
theorem dL_law_916 : decode cL_law 916 = .ok (.iaload, 1) := dn_46 (oo_15 8 rfl rfl)
theorem dL_law_917 : decode cL_law 917 = .ok (.invokevirtual 227, 3) := dn_182 (oo_15 9 rfl rfl) rfl
theorem dL_law_920 : decode cL_law 920 = .ok (.istore 6, 2) := dn_54 (oo_15 12 rfl rfl) rfl
theorem dL_law_922 : decode cL_law 922 = .ok (.goto 1322, 3) := dn_167 (oo_15 14 rfl rfl) (by decide +kernel)
theorem dL_law_925 : decode cL_law 925 = .ok (.aload_n 1, 1) := dn_43 (oo_15 17 rfl rfl)
theorem dL_law_926 : decode cL_law 926 = .ok (.aload_n 0, 1) := dn_42 (oo_15 18 rfl rfl)
theorem dL_law_927 : decode cL_law 927 = .ok (.iload 4, 2) := dn_21 (oo_15 19 rfl rfl) rfl
theorem dL_law_929 : decode cL_law 929 = .ok (.iconst 1, 1) := dn_4 (oo_15 21 rfl rfl)
theorem dL_law_930 : decode cL_law 930 = .ok (.iadd, 1) := dn_96 (oo_15 22 rfl rfl)
theorem dL_law_931 : decode cL_law 931 = .ok (.iaload, 1) := dn_46 (oo_15 23 rfl rfl)
theorem dL_law_932 : decode cL_law 932 = .ok (.aload_n 3, 1) := dn_45 (oo_15 24 rfl rfl)
theorem dL_law_933 : decode cL_law 933 = .ok (.invokestatic 228, 3) := dn_184 (oo_15 25 rfl rfl) rfl
theorem dL_law_936 : decode cL_law 936 = .ok (.istore 5, 2) := dn_54 (oo_15 28 rfl rfl) rfl
theorem dL_law_938 : decode cL_law 938 = .ok (.aload_n 2, 1) := dn_44 (oo_15 30 rfl rfl)
theorem dL_law_939 : decode cL_law 939 = .ok (.aload_n 0, 1) := dn_42 (oo_15 31 rfl rfl)
theorem dL_law_940 : decode cL_law 940 = .ok (.iload 4, 2) := dn_21 (oo_15 32 rfl rfl) rfl
theorem dL_law_942 : decode cL_law 942 = .ok (.iconst 1, 1) := dn_4 (oo_15 34 rfl rfl)
theorem dL_law_943 : decode cL_law 943 = .ok (.iadd, 1) := dn_96 (oo_15 35 rfl rfl)
theorem dL_law_944 : decode cL_law 944 = .ok (.iaload, 1) := dn_46 (oo_15 36 rfl rfl)
theorem dL_law_945 : decode cL_law 945 = .ok (.invokevirtual 230, 3) := dn_182 (oo_15 37 rfl rfl) rfl
theorem dL_law_948 : decode cL_law 948 = .ok (.istore 6, 2) := dn_54 (oo_15 40 rfl rfl) rfl
theorem dL_law_950 : decode cL_law 950 = .ok (.goto 1294, 3) := dn_167 (oo_15 42 rfl rfl) (by decide +kernel)
theorem dL_law_953 : decode cL_law 953 = .ok (.aload_n 1, 1) := dn_43 (oo_15 45 rfl rfl)
theorem dL_law_954 : decode cL_law 954 = .ok (.aload_n 0, 1) := dn_42 (oo_15 46 rfl rfl)
theorem dL_law_955 : decode cL_law 955 = .ok (.iload 4, 2) := dn_21 (oo_15 47 rfl rfl) rfl
theorem dL_law_957 : decode cL_law 957 = .ok (.iconst 1, 1) := dn_4 (oo_15 49 rfl rfl)
theorem dL_law_958 : decode cL_law 958 = .ok (.iadd, 1) := dn_96 (oo_16 0 rfl rfl)
theorem dL_law_959 : decode cL_law 959 = .ok (.iaload, 1) := dn_46 (oo_16 1 rfl rfl)
theorem dL_law_960 : decode cL_law 960 = .ok (.aload_n 0, 1) := dn_42 (oo_16 2 rfl rfl)
theorem dL_law_961 : decode cL_law 961 = .ok (.iload 4, 2) := dn_21 (oo_16 3 rfl rfl) rfl
theorem dL_law_963 : decode cL_law 963 = .ok (.iconst 2, 1) := dn_5 (oo_16 5 rfl rfl)
theorem dL_law_964 : decode cL_law 964 = .ok (.iadd, 1) := dn_96 (oo_16 6 rfl rfl)
theorem dL_law_965 : decode cL_law 965 = .ok (.iaload, 1) := dn_46 (oo_16 7 rfl rfl)
theorem dL_law_966 : decode cL_law 966 = .ok (.aload_n 3, 1) := dn_45 (oo_16 8 rfl rfl)
theorem dL_law_967 : decode cL_law 967 = .ok (.invokestatic 231, 3) := dn_184 (oo_16 9 rfl rfl) rfl
theorem dL_law_970 : decode cL_law 970 = .ok (.istore 5, 2) := dn_54 (oo_16 12 rfl rfl) rfl
theorem dL_law_972 : decode cL_law 972 = .ok (.aload_n 2, 1) := dn_44 (oo_16 14 rfl rfl)
theorem dL_law_973 : decode cL_law 973 = .ok (.aload_n 0, 1) := dn_42 (oo_16 15 rfl rfl)
theorem dL_law_974 : decode cL_law 974 = .ok (.iload 4, 2) := dn_21 (oo_16 16 rfl rfl) rfl
theorem dL_law_976 : decode cL_law 976 = .ok (.iconst 1, 1) := dn_4 (oo_16 18 rfl rfl)
theorem dL_law_977 : decode cL_law 977 = .ok (.iadd, 1) := dn_96 (oo_16 19 rfl rfl)
theorem dL_law_978 : decode cL_law 978 = .ok (.iaload, 1) := dn_46 (oo_16 20 rfl rfl)
theorem dL_law_979 : decode cL_law 979 = .ok (.aload_n 0, 1) := dn_42 (oo_16 21 rfl rfl)
theorem dL_law_980 : decode cL_law 980 = .ok (.iload 4, 2) := dn_21 (oo_16 22 rfl rfl) rfl
theorem dL_law_982 : decode cL_law 982 = .ok (.iconst 2, 1) := dn_5 (oo_16 24 rfl rfl)
theorem dL_law_983 : decode cL_law 983 = .ok (.iadd, 1) := dn_96 (oo_16 25 rfl rfl)
theorem dL_law_984 : decode cL_law 984 = .ok (.iaload, 1) := dn_46 (oo_16 26 rfl rfl)
theorem dL_law_985 : decode cL_law 985 = .ok (.invokevirtual 233, 3) := dn_182 (oo_16 27 rfl rfl) rfl
theorem dL_law_988 : decode cL_law 988 = .ok (.istore 6, 2) := dn_54 (oo_16 30 rfl rfl) rfl
theorem dL_law_990 : decode cL_law 990 = .ok (.goto 1254, 3) := dn_167 (oo_16 32 rfl rfl) (by decide +kernel)
theorem dL_law_993 : decode cL_law 993 = .ok (.aload_n 1, 1) := dn_43 (oo_16 35 rfl rfl)
theorem dL_law_994 : decode cL_law 994 = .ok (.aload_n 0, 1) := dn_42 (oo_16 36 rfl rfl)
theorem dL_law_995 : decode cL_law 995 = .ok (.iload 4, 2) := dn_21 (oo_16 37 rfl rfl) rfl
theorem dL_law_997 : decode cL_law 997 = .ok (.iconst 1, 1) := dn_4 (oo_16 39 rfl rfl)
theorem dL_law_998 : decode cL_law 998 = .ok (.iadd, 1) := dn_96 (oo_16 40 rfl rfl)
theorem dL_law_999 : decode cL_law 999 = .ok (.iaload, 1) := dn_46 (oo_16 41 rfl rfl)
theorem dL_law_1000 : decode cL_law 1000 = .ok (.aload_n 3, 1) := dn_45 (oo_16 42 rfl rfl)
theorem dL_law_1001 : decode cL_law 1001 = .ok (.invokestatic 234, 3) := dn_184 (oo_16 43 rfl rfl) rfl
theorem dL_law_1004 : decode cL_law 1004 = .ok (.istore 5, 2) := dn_54 (oo_17 0 rfl rfl) rfl
theorem dL_law_1006 : decode cL_law 1006 = .ok (.aload_n 2, 1) := dn_44 (oo_17 2 rfl rfl)
theorem dL_law_1007 : decode cL_law 1007 = .ok (.aload_n 0, 1) := dn_42 (oo_17 3 rfl rfl)
theorem dL_law_1008 : decode cL_law 1008 = .ok (.iload 4, 2) := dn_21 (oo_17 4 rfl rfl) rfl
theorem dL_law_1010 : decode cL_law 1010 = .ok (.iconst 1, 1) := dn_4 (oo_17 6 rfl rfl)
theorem dL_law_1011 : decode cL_law 1011 = .ok (.iadd, 1) := dn_96 (oo_17 7 rfl rfl)
