/-! decode rows -/
theorem dL_law_0 : decode cL_law 0 = .ok (.new 8, 3) := dn_187 (oo_0 0 rfl rfl) rfl
theorem dL_law_3 : decode cL_law 3 = .ok (.dup, 1) := dn_89 (oo_0 3 rfl rfl)
theorem dL_law_4 : decode cL_law 4 = .ok (.invokespecial 171, 3) := dn_183 (oo_0 4 rfl rfl) rfl
theorem dL_law_7 : decode cL_law 7 = .ok (.astore_n 1, 1) := dn_76 (oo_0 7 rfl rfl)
theorem dL_law_8 : decode cL_law 8 = .ok (.new 172, 3) := dn_187 (oo_0 8 rfl rfl) rfl
theorem dL_law_11 : decode cL_law 11 = .ok (.dup, 1) := dn_89 (oo_0 11 rfl rfl)
theorem dL_law_12 : decode cL_law 12 = .ok (.invokespecial 174, 3) := dn_183 (oo_0 12 rfl rfl) rfl
theorem dL_law_15 : decode cL_law 15 = .ok (.astore_n 2, 1) := dn_77 (oo_0 15 rfl rfl)
theorem dL_law_16 : decode cL_law 16 = .ok (.new 14, 3) := dn_187 (oo_0 16 rfl rfl) rfl
theorem dL_law_19 : decode cL_law 19 = .ok (.dup, 1) := dn_89 (oo_0 19 rfl rfl)
theorem dL_law_20 : decode cL_law 20 = .ok (.invokespecial 175, 3) := dn_183 (oo_0 20 rfl rfl) rfl
theorem dL_law_23 : decode cL_law 23 = .ok (.astore_n 3, 1) := dn_78 (oo_0 23 rfl rfl)
theorem dL_law_24 : decode cL_law 24 = .ok (.iconst 0, 1) := dn_3 (oo_0 24 rfl rfl)
theorem dL_law_25 : decode cL_law 25 = .ok (.istore 4, 2) := dn_54 (oo_0 25 rfl rfl) rfl
theorem dL_law_27 : decode cL_law 27 = .ok (.iload 4, 2) := dn_21 (oo_0 27 rfl rfl) rfl
theorem dL_law_29 : decode cL_law 29 = .ok (.aload_n 0, 1) := dn_42 (oo_0 29 rfl rfl)
theorem dL_law_30 : decode cL_law 30 = .ok (.arraylength, 1) := dn_190 (oo_0 30 rfl rfl)
theorem dL_law_31 : decode cL_law 31 = .ok (.iconst 4, 1) := dn_7 (oo_0 31 rfl rfl)
theorem dL_law_32 : decode cL_law 32 = .ok (.isub, 1) := dn_100 (oo_0 32 rfl rfl)
theorem dL_law_33 : decode cL_law 33 = .ok (.if_icmp .gt 2188, 3) := dn_163 (oo_0 33 rfl rfl) (by decide +kernel)
theorem dL_law_36 : decode cL_law 36 = .ok (.aload_n 0, 1) := dn_42 (oo_0 36 rfl rfl)
theorem dL_law_37 : decode cL_law 37 = .ok (.iload 4, 2) := dn_21 (oo_0 37 rfl rfl) rfl
theorem dL_law_39 : decode cL_law 39 = .ok (.iaload, 1) := dn_46 (oo_0 39 rfl rfl)
theorem dL_law_40 : decode cL_law 40 = .ok (.bipush 63, 2) := dn_16 (oo_0 40 rfl rfl) (by decide +kernel)
theorem dL_law_42 : decode cL_law 42 = .ok (.iand, 1) := dn_126 (oo_0 42 rfl rfl)
theorem dL_law_43 : decode cL_law 43 = .ok (.tableswitch 2172 0 49 #[213, 253, 305, 357, 397, 425, 465, 505, 533, 585, 637, 705, 773, 825, 853, 881, 921, 949, 989, 1057, 1097, 1149, 1201, 1241, 1281, 1321, 1373, 1401, 1441, 1469, 1497, 1537, 1577, 1617, 1685, 1725, 1753, 1781, 1833, 1873, 1901, 1953, 1981, 2009, 2037, 2065, 2105, 2133, 2146, 2159], 213) := by decide +kernel
theorem dL_law_256 : decode cL_law 256 = .ok (.aload_n 1, 1) := dn_43 (oo_0 256 rfl rfl)
theorem dL_law_257 : decode cL_law 257 = .ok (.aload_n 0, 1) := dn_42 (oo_0 257 rfl rfl)
theorem dL_law_258 : decode cL_law 258 = .ok (.iload 4, 2) := dn_21 (oo_0 258 rfl rfl) rfl
theorem dL_law_260 : decode cL_law 260 = .ok (.iconst 1, 1) := dn_4 (oo_0 260 rfl rfl)
theorem dL_law_261 : decode cL_law 261 = .ok (.iadd, 1) := dn_96 (oo_0 261 rfl rfl)
theorem dL_law_262 : decode cL_law 262 = .ok (.iaload, 1) := dn_46 (oo_0 262 rfl rfl)
theorem dL_law_263 : decode cL_law 263 = .ok (.aload_n 0, 1) := dn_42 (oo_1 0 rfl rfl)
theorem dL_law_264 : decode cL_law 264 = .ok (.iload 4, 2) := dn_21 (oo_1 1 rfl rfl) rfl
theorem dL_law_266 : decode cL_law 266 = .ok (.iconst 2, 1) := dn_5 (oo_1 3 rfl rfl)
theorem dL_law_267 : decode cL_law 267 = .ok (.iadd, 1) := dn_96 (oo_1 4 rfl rfl)
theorem dL_law_268 : decode cL_law 268 = .ok (.iaload, 1) := dn_46 (oo_1 5 rfl rfl)
theorem dL_law_269 : decode cL_law 269 = .ok (.aload_n 3, 1) := dn_45 (oo_1 6 rfl rfl)
theorem dL_law_270 : decode cL_law 270 = .ok (.invokestatic 176, 3) := dn_184 (oo_1 7 rfl rfl) rfl
theorem dL_law_273 : decode cL_law 273 = .ok (.istore 5, 2) := dn_54 (oo_1 10 rfl rfl) rfl
theorem dL_law_275 : decode cL_law 275 = .ok (.aload_n 2, 1) := dn_44 (oo_1 12 rfl rfl)
theorem dL_law_276 : decode cL_law 276 = .ok (.aload_n 0, 1) := dn_42 (oo_1 13 rfl rfl)
theorem dL_law_277 : decode cL_law 277 = .ok (.iload 4, 2) := dn_21 (oo_1 14 rfl rfl) rfl
theorem dL_law_279 : decode cL_law 279 = .ok (.iconst 1, 1) := dn_4 (oo_1 16 rfl rfl)
theorem dL_law_280 : decode cL_law 280 = .ok (.iadd, 1) := dn_96 (oo_1 17 rfl rfl)
theorem dL_law_281 : decode cL_law 281 = .ok (.iaload, 1) := dn_46 (oo_1 18 rfl rfl)
theorem dL_law_282 : decode cL_law 282 = .ok (.aload_n 0, 1) := dn_42 (oo_1 19 rfl rfl)
theorem dL_law_283 : decode cL_law 283 = .ok (.iload 4, 2) := dn_21 (oo_1 20 rfl rfl) rfl
theorem dL_law_285 : decode cL_law 285 = .ok (.iconst 2, 1) := dn_5 (oo_1 22 rfl rfl)
theorem dL_law_286 : decode cL_law 286 = .ok (.iadd, 1) := dn_96 (oo_1 23 rfl rfl)
theorem dL_law_287 : decode cL_law 287 = .ok (.iaload, 1) := dn_46 (oo_1 24 rfl rfl)
theorem dL_law_288 : decode cL_law 288 = .ok (.invokevirtual 181, 3) := dn_182 (oo_1 25 rfl rfl) rfl
theorem dL_law_291 : decode cL_law 291 = .ok (.istore 6, 2) := dn_54 (oo_1 28 rfl rfl) rfl
theorem dL_law_293 : decode cL_law 293 = .ok (.goto 1922, 3) := dn_167 (oo_1 30 rfl rfl) (by decide +kernel)
theorem dL_law_296 : decode cL_law 296 = .ok (.aload_n 1, 1) := dn_43 (oo_1 33 rfl rfl)
theorem dL_law_297 : decode cL_law 297 = .ok (.aload_n 0, 1) := dn_42 (oo_1 34 rfl rfl)
theorem dL_law_298 : decode cL_law 298 = .ok (.iload 4, 2) := dn_21 (oo_1 35 rfl rfl) rfl
theorem dL_law_300 : decode cL_law 300 = .ok (.iconst 1, 1) := dn_4 (oo_1 37 rfl rfl)
theorem dL_law_301 : decode cL_law 301 = .ok (.iadd, 1) := dn_96 (oo_1 38 rfl rfl)
theorem dL_law_302 : decode cL_law 302 = .ok (.iaload, 1) := dn_46 (oo_1 39 rfl rfl)
theorem dL_law_303 : decode cL_law 303 = .ok (.aload_n 0, 1) := dn_42 (oo_1 40 rfl rfl)
theorem dL_law_304 : decode cL_law 304 = .ok (.iload 4, 2) := dn_21 (oo_1 41 rfl rfl) rfl
theorem dL_law_306 : decode cL_law 306 = .ok (.iconst 2, 1) := dn_5 (oo_1 43 rfl rfl)
theorem dL_law_307 : decode cL_law 307 = .ok (.iadd, 1) := dn_96 (oo_1 44 rfl rfl)
theorem dL_law_308 : decode cL_law 308 = .ok (.iaload, 1) := dn_46 (oo_2 0 rfl rfl)
theorem dL_law_309 : decode cL_law 309 = .ok (.aload_n 0, 1) := dn_42 (oo_2 1 rfl rfl)
theorem dL_law_310 : decode cL_law 310 = .ok (.iload 4, 2) := dn_21 (oo_2 2 rfl rfl) rfl
theorem dL_law_312 : decode cL_law 312 = .ok (.iconst 3, 1) := dn_6 (oo_2 4 rfl rfl)
theorem dL_law_313 : decode cL_law 313 = .ok (.iadd, 1) := dn_96 (oo_2 5 rfl rfl)
theorem dL_law_314 : decode cL_law 314 = .ok (.iaload, 1) := dn_46 (oo_2 6 rfl rfl)
theorem dL_law_315 : decode cL_law 315 = .ok (.aload_n 3, 1) := dn_45 (oo_2 7 rfl rfl)
theorem dL_law_316 : decode cL_law 316 = .ok (.invokestatic 182, 3) := dn_184 (oo_2 8 rfl rfl) rfl
theorem dL_law_319 : decode cL_law 319 = .ok (.istore 5, 2) := dn_54 (oo_2 11 rfl rfl) rfl
theorem dL_law_321 : decode cL_law 321 = .ok (.aload_n 2, 1) := dn_44 (oo_2 13 rfl rfl)
theorem dL_law_322 : decode cL_law 322 = .ok (.aload_n 0, 1) := dn_42 (oo_2 14 rfl rfl)
theorem dL_law_323 : decode cL_law 323 = .ok (.iload 4, 2) := dn_21 (oo_2 15 rfl rfl) rfl
theorem dL_law_325 : decode cL_law 325 = .ok (.iconst 1, 1) := dn_4 (oo_2 17 rfl rfl)
theorem dL_law_326 : decode cL_law 326 = .ok (.iadd, 1) := dn_96 (oo_2 18 rfl rfl)
theorem dL_law_327 : decode cL_law 327 = .ok (.iaload, 1) := dn_46 (oo_2 19 rfl rfl)
theorem dL_law_328 : decode cL_law 328 = .ok (.aload_n 0, 1) := dn_42 (oo_2 20 rfl rfl)
theorem dL_law_329 : decode cL_law 329 = .ok (.iload 4, 2) := dn_21 (oo_2 21 rfl rfl) rfl
theorem dL_law_331 : decode cL_law 331 = .ok (.iconst 2, 1) := dn_5 (oo_2 23 rfl rfl)
theorem dL_law_332 : decode cL_law 332 = .ok (.iadd, 1) := dn_96 (oo_2 24 rfl rfl)
theorem dL_law_333 : decode cL_law 333 = .ok (.iaload, 1) := dn_46 (oo_2 25 rfl rfl)
theorem dL_law_334 : decode cL_law 334 = .ok (.aload_n 0, 1) := dn_42 (oo_2 26 rfl rfl)
theorem dL_law_335 : decode cL_law 335 = .ok (.iload 4, 2) := dn_21 (oo_2 27 rfl rfl) rfl
theorem dL_law_337 : decode cL_law 337 = .ok (.iconst 3, 1) := dn_6 (oo_2 29 rfl rfl)
theorem dL_law_338 : decode cL_law 338 = .ok (.iadd, 1) := dn_96 (oo_2 30 rfl rfl)
theorem dL_law_339 : decode cL_law 339 = .ok (.iaload, 1) := dn_46 (oo_2 31 rfl rfl)
theorem dL_law_340 : decode cL_law 340 = .ok (.invokevirtual 185, 3) := dn_182 (oo_2 32 rfl rfl) rfl
theorem dL_law_343 : decode cL_law 343 = .ok (.istore 6, 2) := dn_54 (oo_2 35 rfl rfl) rfl
theorem dL_law_345 : decode cL_law 345 = .ok (.goto 1870, 3) := dn_167 (oo_2 37 rfl rfl) (by decide +kernel)
theorem dL_law_348 : decode cL_law 348 = .ok (.aload_n 1, 1) := dn_43 (oo_2 40 rfl rfl)
theorem dL_law_349 : decode cL_law 349 = .ok (.aload_n 0, 1) := dn_42 (oo_2 41 rfl rfl)
theorem dL_law_350 : decode cL_law 350 = .ok (.iload 4, 2) := dn_21 (oo_2 42 rfl rfl) rfl
theorem dL_law_352 : decode cL_law 352 = .ok (.iconst 1, 1) := dn_4 (oo_2 44 rfl rfl)
theorem dL_law_353 : decode cL_law 353 = .ok (.iadd, 1) := dn_96 (oo_3 0 rfl rfl)
theorem dL_law_354 : decode cL_law 354 = .ok (.iaload, 1) := dn_46 (oo_3 1 rfl rfl)
theorem dL_law_355 : decode cL_law 355 = .ok (.aload_n 0, 1) := dn_42 (oo_3 2 rfl rfl)
theorem dL_law_356 : decode cL_law 356 = .ok (.iload 4, 2) := dn_21 (oo_3 3 rfl rfl) rfl
theorem dL_law_358 : decode cL_law 358 = .ok (.iconst 2, 1) := dn_5 (oo_3 5 rfl rfl)
theorem dL_law_359 : decode cL_law 359 = .ok (.iadd, 1) := dn_96 (oo_3 6 rfl rfl)
theorem dL_law_360 : decode cL_law 360 = .ok (.iaload, 1) := dn_46 (oo_3 7 rfl rfl)
theorem dL_law_361 : decode cL_law 361 = .ok (.aload_n 0, 1) := dn_42 (oo_3 8 rfl rfl)
theorem dL_law_362 : decode cL_law 362 = .ok (.iload 4, 2) := dn_21 (oo_3 9 rfl rfl) rfl
theorem dL_law_364 : decode cL_law 364 = .ok (.iconst 3, 1) := dn_6 (oo_3 11 rfl rfl)
theorem dL_law_365 : decode cL_law 365 = .ok (.iadd, 1) := dn_96 (oo_3 12 rfl rfl)
theorem dL_law_366 : decode cL_law 366 = .ok (.iaload, 1) := dn_46 (oo_3 13 rfl rfl)
theorem dL_law_367 : decode cL_law 367 = .ok (.aload_n 3, 1) := dn_45 (oo_3 14 rfl rfl)
theorem dL_law_368 : decode cL_law 368 = .ok (.invokestatic 186, 3) := dn_184 (oo_3 15 rfl rfl) rfl
theorem dL_law_371 : decode cL_law 371 = .ok (.istore 5, 2) := dn_54 (oo_3 18 rfl rfl) rfl
theorem dL_law_373 : decode cL_law 373 = .ok (.aload_n 2, 1) := dn_44 (oo_3 20 rfl rfl)
theorem dL_law_374 : decode cL_law 374 = .ok (.aload_n 0, 1) := dn_42 (oo_3 21 rfl rfl)
theorem dL_law_375 : decode cL_law 375 = .ok (.iload 4, 2) := dn_21 (oo_3 22 rfl rfl) rfl
theorem dL_law_377 : decode cL_law 377 = .ok (.iconst 1, 1) := dn_4 (oo_3 24 rfl rfl)
theorem dL_law_378 : decode cL_law 378 = .ok (.iadd, 1) := dn_96 (oo_3 25 rfl rfl)
theorem dL_law_379 : decode cL_law 379 = .ok (.iaload, 1) := dn_46 (oo_3 26 rfl rfl)
theorem dL_law_380 : decode cL_law 380 = .ok (.aload_n 0, 1) := dn_42 (oo_3 27 rfl rfl)
theorem dL_law_381 : decode cL_law 381 = .ok (.iload 4, 2) := dn_21 (oo_3 28 rfl rfl) rfl
theorem dL_law_383 : decode cL_law 383 = .ok (.iconst 2, 1) := dn_5 (oo_3 30 rfl rfl)
theorem dL_law_384 : decode cL_law 384 = .ok (.iadd, 1) := dn_96 (oo_3 31 rfl rfl)
theorem dL_law_385 : decode cL_law 385 = .ok (.iaload, 1) := dn_46 (oo_3 32 rfl rfl)
theorem dL_law_386 : decode cL_law 386 = .ok (.aload_n 0, 1) := dn_42 (oo_3 33 rfl rfl)
theorem dL_law_387 : decode cL_law 387 = .ok (.iload 4, 2) := dn_21 (oo_3 34 rfl rfl) rfl
theorem dL_law_389 : decode cL_law 389 = .ok (.iconst 3, 1) := dn_6 (oo_3 36 rfl rfl)
theorem dL_law_390 : decode cL_law 390 = .ok (.iadd, 1) := dn_96 (oo_3 37 rfl rfl)
theorem dL_law_391 : decode cL_law 391 = .ok (.iaload, 1) := dn_46 (oo_3 38 rfl rfl)
theorem dL_law_392 : decode cL_law 392 = .ok (.invokevirtual 188, 3) := dn_182 (oo_3 39 rfl rfl) rfl
theorem dL_law_395 : decode cL_law 395 = .ok (.istore 6, 2) := dn_54 (oo_4 0 rfl rfl) rfl
theorem dL_law_397 : decode cL_law 397 = .ok (.goto 1818, 3) := dn_167 (oo_4 2 rfl rfl) (by decide +kernel)
theorem dL_law_400 : decode cL_law 400 = .ok (.aload_n 1, 1) := dn_43 (oo_4 5 rfl rfl)
theorem dL_law_401 : decode cL_law 401 = .ok (.aload_n 0, 1) := dn_42 (oo_4 6 rfl rfl)
theorem dL_law_402 : decode cL_law 402 = .ok (.iload 4, 2) := dn_21 (oo_4 7 rfl rfl) rfl
theorem dL_law_404 : decode cL_law 404 = .ok (.iconst 1, 1) := dn_4 (oo_4 9 rfl rfl)
theorem dL_law_405 : decode cL_law 405 = .ok (.iadd, 1) := dn_96 (oo_4 10 rfl rfl)
theorem dL_law_406 : decode cL_law 406 = .ok (.iaload, 1) := dn_46 (oo_4 11 rfl rfl)
theorem dL_law_407 : decode cL_law 407 = .ok (.aload_n 0, 1) := dn_42 (oo_4 12 rfl rfl)
theorem dL_law_408 : decode cL_law 408 = .ok (.iload 4, 2) := dn_21 (oo_4 13 rfl rfl) rfl
theorem dL_law_410 : decode cL_law 410 = .ok (.iconst 2, 1) := dn_5 (oo_4 15 rfl rfl)
theorem dL_law_411 : decode cL_law 411 = .ok (.iadd, 1) := dn_96 (oo_4 16 rfl rfl)
theorem dL_law_412 : decode cL_law 412 = .ok (.iaload, 1) := dn_46 (oo_4 17 rfl rfl)
theorem dL_law_413 : decode cL_law 413 = .ok (.aload_n 3, 1) := dn_45 (oo_4 18 rfl rfl)
theorem dL_law_414 : decode cL_law 414 = .ok (.invokestatic 189, 3) := dn_184 (oo_4 19 rfl rfl) rfl
theorem dL_law_417 : decode cL_law 417 = .ok (.istore 5, 2) := dn_54 (oo_4 22 rfl rfl) rfl
theorem dL_law_419 : decode cL_law 419 = .ok (.aload_n 2, 1) := dn_44 (oo_4 24 rfl rfl)
theorem dL_law_420 : decode cL_law 420 = .ok (.aload_n 0, 1) := dn_42 (oo_4 25 rfl rfl)
theorem dL_law_421 : decode cL_law 421 = .ok (.iload 4, 2) := dn_21 (oo_4 26 rfl rfl) rfl
theorem dL_law_423 : decode cL_law 423 = .ok (.iconst 1, 1) := dn_4 (oo_4 28 rfl rfl)
theorem dL_law_424 : decode cL_law 424 = .ok (.iadd, 1) := dn_96 (oo_4 29 rfl rfl)
theorem dL_law_425 : decode cL_law 425 = .ok (.iaload, 1) := dn_46 (oo_4 30 rfl rfl)
theorem dL_law_426 : decode cL_law 426 = .ok (.aload_n 0, 1) := dn_42 (oo_4 31 rfl rfl)
theorem dL_law_427 : decode cL_law 427 = .ok (.iload 4, 2) := dn_21 (oo_4 32 rfl rfl) rfl
theorem dL_law_429 : decode cL_law 429 = .ok (.iconst 2, 1) := dn_5 (oo_4 34 rfl rfl)
theorem dL_law_430 : decode cL_law 430 = .ok (.iadd, 1) := dn_96 (oo_4 35 rfl rfl)
theorem dL_law_431 : decode cL_law 431 = .ok (.iaload, 1) := dn_46 (oo_4 36 rfl rfl)
theorem dL_law_432 : decode cL_law 432 = .ok (.invokevirtual 191, 3) := dn_182 (oo_4 37 rfl rfl) rfl
theorem dL_law_435 : decode cL_law 435 = .ok (.istore 6, 2) := dn_54 (oo_4 40 rfl rfl) rfl
theorem dL_law_437 : decode cL_law 437 = .ok (.goto 1778, 3) := dn_167 (oo_4 42 rfl rfl) (by decide +kernel)
theorem dL_law_440 : decode cL_law 440 = .ok (.aload_n 1, 1) := dn_43 (oo_4 45 rfl rfl)
theorem dL_law_441 : decode cL_law 441 = .ok (.aload_n 0, 1) := dn_42 (oo_4 46 rfl rfl)
theorem dL_law_442 : decode cL_law 442 = .ok (.iload 4, 2) := dn_21 (oo_5 0 rfl rfl) rfl
theorem dL_law_444 : decode cL_law 444 = .ok (.iconst 1, 1) := dn_4 (oo_5 2 rfl rfl)
theorem dL_law_445 : decode cL_law 445 = .ok (.iadd, 1) := dn_96 (oo_5 3 rfl rfl)
theorem dL_law_446 : decode cL_law 446 = .ok (.iaload, 1) := dn_46 (oo_5 4 rfl rfl)
theorem dL_law_447 : decode cL_law 447 = .ok (.aload_n 3, 1) := dn_45 (oo_5 5 rfl rfl)
theorem dL_law_448 : decode cL_law 448 = .ok (.invokestatic 192, 3) := dn_184 (oo_5 6 rfl rfl) rfl
theorem dL_law_451 : decode cL_law 451 = .ok (.istore 5, 2) := dn_54 (oo_5 9 rfl rfl) rfl
theorem dL_law_453 : decode cL_law 453 = .ok (.aload_n 2, 1) := dn_44 (oo_5 11 rfl rfl)
theorem dL_law_454 : decode cL_law 454 = .ok (.aload_n 0, 1) := dn_42 (oo_5 12 rfl rfl)
theorem dL_law_455 : decode cL_law 455 = .ok (.iload 4, 2) := dn_21 (oo_5 13 rfl rfl) rfl
theorem dL_law_457 : decode cL_law 457 = .ok (.iconst 1, 1) := dn_4 (oo_5 15 rfl rfl)
theorem dL_law_458 : decode cL_law 458 = .ok (.iadd, 1) := dn_96 (oo_5 16 rfl rfl)
theorem dL_law_459 : decode cL_law 459 = .ok (.iaload, 1) := dn_46 (oo_5 17 rfl rfl)
theorem dL_law_460 : decode cL_law 460 = .ok (.invokevirtual 195, 3) := dn_182 (oo_5 18 rfl rfl) rfl
theorem dL_law_463 : decode cL_law 463 = .ok (.istore 6, 2) := dn_54 (oo_5 21 rfl rfl) rfl
theorem dL_law_465 : decode cL_law 465 = .ok (.goto 1750, 3) := dn_167 (oo_5 23 rfl rfl) (by decide +kernel)
theorem dL_law_468 : decode cL_law 468 = .ok (.aload_n 1, 1) := dn_43 (oo_5 26 rfl rfl)
theorem dL_law_469 : decode cL_law 469 = .ok (.aload_n 0, 1) := dn_42 (oo_5 27 rfl rfl)
theorem dL_law_470 : decode cL_law 470 = .ok (.iload 4, 2) := dn_21 (oo_5 28 rfl rfl) rfl
theorem dL_law_472 : decode cL_law 472 = .ok (.iconst 1, 1) := dn_4 (oo_5 30 rfl rfl)
theorem dL_law_473 : decode cL_law 473 = .ok (.iadd, 1) := dn_96 (oo_5 31 rfl rfl)
theorem dL_law_474 : decode cL_law 474 = .ok (.iaload, 1) := dn_46 (oo_5 32 rfl rfl)
theorem dL_law_475 : decode cL_law 475 = .ok (.aload_n 0, 1) := dn_42 (oo_5 33 rfl rfl)
theorem dL_law_476 : decode cL_law 476 = .ok (.iload 4, 2) := dn_21 (oo_5 34 rfl rfl) rfl
theorem dL_law_478 : decode cL_law 478 = .ok (.iconst 2, 1) := dn_5 (oo_5 36 rfl rfl)
theorem dL_law_479 : decode cL_law 479 = .ok (.iadd, 1) := dn_96 (oo_5 37 rfl rfl)
theorem dL_law_480 : decode cL_law 480 = .ok (.iaload, 1) := dn_46 (oo_5 38 rfl rfl)
theorem dL_law_481 : decode cL_law 481 = .ok (.aload_n 3, 1) := dn_45 (oo_5 39 rfl rfl)
theorem dL_law_482 : decode cL_law 482 = .ok (.invokestatic 196, 3) := dn_184 (oo_5 40 rfl rfl) rfl
theorem dL_law_485 : decode cL_law 485 = .ok (.istore 5, 2) := dn_54 (oo_5 43 rfl rfl) rfl
theorem dL_law_487 : decode cL_law 487 = .ok (.aload_n 2, 1) := dn_44 (oo_5 45 rfl rfl)
theorem dL_law_488 : decode cL_law 488 = .ok (.aload_n 0, 1) := dn_42 (oo_5 46 rfl rfl)
theorem dL_law_489 : decode cL_law 489 = .ok (.iload 4, 2) := dn_21 (oo_6 0 rfl rfl) rfl
theorem dL_law_491 : decode cL_law 491 = .ok (.iconst 1, 1) := dn_4 (oo_6 2 rfl rfl)
theorem dL_law_492 : decode cL_law 492 = .ok (.iadd, 1) := dn_96 (oo_6 3 rfl rfl)
theorem dL_law_493 : decode cL_law 493 = .ok (.iaload, 1) := dn_46 (oo_6 4 rfl rfl)
theorem dL_law_494 : decode cL_law 494 = .ok (.aload_n 0, 1) := dn_42 (oo_6 5 rfl rfl)
theorem dL_law_495 : decode cL_law 495 = .ok (.iload 4, 2) := dn_21 (oo_6 6 rfl rfl) rfl
theorem dL_law_497 : decode cL_law 497 = .ok (.iconst 2, 1) := dn_5 (oo_6 8 rfl rfl)
theorem dL_law_498 : decode cL_law 498 = .ok (.iadd, 1) := dn_96 (oo_6 9 rfl rfl)
theorem dL_law_499 : decode cL_law 499 = .ok (.iaload, 1) := dn_46 (oo_6 10 rfl rfl)
theorem dL_law_500 : decode cL_law 500 = .ok (.invokevirtual 198, 3) := dn_182 (oo_6 11 rfl rfl) rfl
theorem dL_law_503 : decode cL_law 503 = .ok (.istore 6, 2) := dn_54 (oo_6 14 rfl rfl) rfl
theorem dL_law_505 : decode cL_law 505 = .ok (.goto 1710, 3) := dn_167 (oo_6 16 rfl rfl) (by decide +kernel)
theorem dL_law_508 : decode cL_law 508 = .ok (.aload_n 1, 1) := dn_43 (oo_6 19 rfl rfl)
theorem dL_law_509 : decode cL_law 509 = .ok (.aload_n 0, 1) := dn_42 (oo_6 20 rfl rfl)
theorem dL_law_510 : decode cL_law 510 = .ok (.iload 4, 2) := dn_21 (oo_6 21 rfl rfl) rfl
theorem dL_law_512 : decode cL_law 512 = .ok (.iconst 1, 1) := dn_4 (oo_6 23 rfl rfl)
theorem dL_law_513 : decode cL_law 513 = .ok (.iadd, 1) := dn_96 (oo_6 24 rfl rfl)
theorem dL_law_514 : decode cL_law 514 = .ok (.iaload, 1) := dn_46 (oo_6 25 rfl rfl)
theorem dL_law_515 : decode cL_law 515 = .ok (.aload_n 0, 1) := dn_42 (oo_6 26 rfl rfl)
theorem dL_law_516 : decode cL_law 516 = .ok (.iload 4, 2) := dn_21 (oo_6 27 rfl rfl) rfl
theorem dL_law_518 : decode cL_law 518 = .ok (.iconst 2, 1) := dn_5 (oo_6 29 rfl rfl)
theorem dL_law_519 : decode cL_law 519 = .ok (.iadd, 1) := dn_96 (oo_6 30 rfl rfl)
theorem dL_law_520 : decode cL_law 520 = .ok (.iaload, 1) := dn_46 (oo_6 31 rfl rfl)
theorem dL_law_521 : decode cL_law 521 = .ok (.aload_n 3, 1) := dn_45 (oo_6 32 rfl rfl)
theorem dL_law_522 : decode cL_law 522 = .ok (.invokestatic 199, 3) := dn_184 (oo_6 33 rfl rfl) rfl
theorem dL_law_525 : decode cL_law 525 = .ok (.istore 5, 2) := dn_54 (oo_6 36 rfl rfl) rfl
theorem dL_law_527 : decode cL_law 527 = .ok (.aload_n 2, 1) := dn_44 (oo_6 38 rfl rfl)
theorem dL_law_528 : decode cL_law 528 = .ok (.aload_n 0, 1) := dn_42 (oo_6 39 rfl rfl)
theorem dL_law_529 : decode cL_law 529 = .ok (.iload 4, 2) := dn_21 (oo_6 40 rfl rfl) rfl
theorem dL_law_531 : decode cL_law 531 = .ok (.iconst 1, 1) := dn_4 (oo_6 42 rfl rfl)
theorem dL_law_532 : decode cL_law 532 = .ok (.iadd, 1) := dn_96 (oo_6 43 rfl rfl)
theorem dL_law_533 : decode cL_law 533 = .ok (.iaload, 1) := dn_46 (oo_6 44 rfl rfl)
theorem dL_law_534 : decode cL_law 534 = .ok (.aload_n 0, 1) := dn_42 (oo_7 0 rfl rfl)
theorem dL_law_535 : decode cL_law 535 = .ok (.iload 4, 2) := dn_21 (oo_7 1 rfl rfl) rfl
theorem dL_law_537 : decode cL_law 537 = .ok (.iconst 2, 1) := dn_5 (oo_7 3 rfl rfl)
theorem dL_law_538 : decode cL_law 538 = .ok (.iadd, 1) := dn_96 (oo_7 4 rfl rfl)
theorem dL_law_539 : decode cL_law 539 = .ok (.iaload, 1) := dn_46 (oo_7 5 rfl rfl)
theorem dL_law_540 : decode cL_law 540 = .ok (.invokevirtual 201, 3) := dn_182 (oo_7 6 rfl rfl) rfl
theorem dL_law_543 : decode cL_law 543 = .ok (.istore 6, 2) := dn_54 (oo_7 9 rfl rfl) rfl
theorem dL_law_545 : decode cL_law 545 = .ok (.goto 1670, 3) := dn_167 (oo_7 11 rfl rfl) (by decide +kernel)
theorem dL_law_548 : decode cL_law 548 = .ok (.aload_n 1, 1) := dn_43 (oo_7 14 rfl rfl)
theorem dL_law_549 : decode cL_law 549 = .ok (.aload_n 0, 1) := dn_42 (oo_7 15 rfl rfl)
theorem dL_law_550 : decode cL_law 550 = .ok (.iload 4, 2) := dn_21 (oo_7 16 rfl rfl) rfl
theorem dL_law_552 : decode cL_law 552 = .ok (.iconst 1, 1) := dn_4 (oo_7 18 rfl rfl)
theorem dL_law_553 : decode cL_law 553 = .ok (.iadd, 1) := dn_96 (oo_7 19 rfl rfl)
theorem dL_law_554 : decode cL_law 554 = .ok (.iaload, 1) := dn_46 (oo_7 20 rfl rfl)
theorem dL_law_555 : decode cL_law 555 = .ok (.aload_n 3, 1) := dn_45 (oo_7 21 rfl rfl)
theorem dL_law_556 : decode cL_law 556 = .ok (.invokestatic 202, 3) := dn_184 (oo_7 22 rfl rfl) rfl
theorem dL_law_559 : decode cL_law 559 = .ok (.istore 5, 2) := dn_54 (oo_7 25 rfl rfl) rfl
theorem dL_law_561 : decode cL_law 561 = .ok (.aload_n 2, 1) := dn_44 (oo_7 27 rfl rfl)
theorem dL_law_562 : decode cL_law 562 = .ok (.aload_n 0, 1) := dn_42 (oo_7 28 rfl rfl)
theorem dL_law_563 : decode cL_law 563 = .ok (.iload 4, 2) := dn_21 (oo_7 29 rfl rfl) rfl
theorem dL_law_565 : decode cL_law 565 = .ok (.iconst 1, 1) := dn_4 (oo_7 31 rfl rfl)
theorem dL_law_566 : decode cL_law 566 = .ok (.iadd, 1) := dn_96 (oo_7 32 rfl rfl)
theorem dL_law_567 : decode cL_law 567 = .ok (.iaload, 1) := dn_46 (oo_7 33 rfl rfl)
theorem dL_law_568 : decode cL_law 568 = .ok (.invokevirtual 204, 3) := dn_182 (oo_7 34 rfl rfl) rfl
theorem dL_law_571 : decode cL_law 571 = .ok (.istore 6, 2) := dn_54 (oo_7 37 rfl rfl) rfl
theorem dL_law_573 : decode cL_law 573 = .ok (.goto 1642, 3) := dn_167 (oo_7 39 rfl rfl) (by decide +kernel)
theorem dL_law_576 : decode cL_law 576 = .ok (.aload_n 1, 1) := dn_43 (oo_7 42 rfl rfl)
theorem dL_law_577 : decode cL_law 577 = .ok (.aload_n 0, 1) := dn_42 (oo_7 43 rfl rfl)
theorem dL_law_578 : decode cL_law 578 = .ok (.iload 4, 2) := dn_21 (oo_7 44 rfl rfl) rfl
theorem dL_law_580 : decode cL_law 580 = .ok (.iconst 1, 1) := dn_4 (oo_7 46 rfl rfl)
theorem dL_law_581 : decode cL_law 581 = .ok (.iadd, 1) := dn_96 (oo_7 47 rfl rfl)
theorem dL_law_582 : decode cL_law 582 = .ok (.iaload, 1) := dn_46 (oo_7 48 rfl rfl)
theorem dL_law_583 : decode cL_law 583 = .ok (.aload_n 0, 1) := dn_42 (oo_8 0 rfl rfl)
theorem dL_law_584 : decode cL_law 584 = .ok (.iload 4, 2) := dn_21 (oo_8 1 rfl rfl) rfl
theorem dL_law_586 : decode cL_law 586 = .ok (.iconst 2, 1) := dn_5 (oo_8 3 rfl rfl)
theorem dL_law_587 : decode cL_law 587 = .ok (.iadd, 1) := dn_96 (oo_8 4 rfl rfl)
theorem dL_law_588 : decode cL_law 588 = .ok (.iaload, 1) := dn_46 (oo_8 5 rfl rfl)
theorem dL_law_589 : decode cL_law 589 = .ok (.aload_n 0, 1) := dn_42 (oo_8 6 rfl rfl)
theorem dL_law_590 : decode cL_law 590 = .ok (.iload 4, 2) := dn_21 (oo_8 7 rfl rfl) rfl
theorem dL_law_592 : decode cL_law 592 = .ok (.iconst 3, 1) := dn_6 (oo_8 9 rfl rfl)
theorem dL_law_593 : decode cL_law 593 = .ok (.iadd, 1) := dn_96 (oo_8 10 rfl rfl)
theorem dL_law_594 : decode cL_law 594 = .ok (.iaload, 1) := dn_46 (oo_8 11 rfl rfl)
theorem dL_law_595 : decode cL_law 595 = .ok (.aload_n 3, 1) := dn_45 (oo_8 12 rfl rfl)
theorem dL_law_596 : decode cL_law 596 = .ok (.invokestatic 205, 3) := dn_184 (oo_8 13 rfl rfl) rfl
theorem dL_law_599 : decode cL_law 599 = .ok (.istore 5, 2) := dn_54 (oo_8 16 rfl rfl) rfl
theorem dL_law_601 : decode cL_law 601 = .ok (.aload_n 2, 1) := dn_44 (oo_8 18 rfl rfl)
theorem dL_law_602 : decode cL_law 602 = .ok (.aload_n 0, 1) := dn_42 (oo_8 19 rfl rfl)
theorem dL_law_603 : decode cL_law 603 = .ok (.iload 4, 2) := dn_21 (oo_8 20 rfl rfl) rfl
theorem dL_law_605 : decode cL_law 605 = .ok (.iconst 1, 1) := dn_4 (oo_8 22 rfl rfl)
theorem dL_law_606 : decode cL_law 606 = .ok (.iadd, 1) := dn_96 (oo_8 23 rfl rfl)
theorem dL_law_607 : decode cL_law 607 = .ok (.iaload, 1) := dn_46 (oo_8 24 rfl rfl)
theorem dL_law_608 : decode cL_law 608 = .ok (.aload_n 0, 1) := dn_42 (oo_8 25 rfl rfl)
theorem dL_law_609 : decode cL_law 609 = .ok (.iload 4, 2) := dn_21 (oo_8 26 rfl rfl) rfl
theorem dL_law_611 : decode cL_law 611 = .ok (.iconst 2, 1) := dn_5 (oo_8 28 rfl rfl)
theorem dL_law_612 : decode cL_law 612 = .ok (.iadd, 1) := dn_96 (oo_8 29 rfl rfl)
theorem dL_law_613 : decode cL_law 613 = .ok (.iaload, 1) := dn_46 (oo_8 30 rfl rfl)
theorem dL_law_614 : decode cL_law 614 = .ok (.aload_n 0, 1) := dn_42 (oo_8 31 rfl rfl)
theorem dL_law_615 : decode cL_law 615 = .ok (.iload 4, 2) := dn_21 (oo_8 32 rfl rfl) rfl
theorem dL_law_617 : decode cL_law 617 = .ok (.iconst 3, 1) := dn_6 (oo_8 34 rfl rfl)
theorem dL_law_618 : decode cL_law 618 = .ok (.iadd, 1) := dn_96 (oo_8 35 rfl rfl)
theorem dL_law_619 : decode cL_law 619 = .ok (.iaload, 1) := dn_46 (oo_8 36 rfl rfl)
theorem dL_law_620 : decode cL_law 620 = .ok (.invokevirtual 207, 3) := dn_182 (oo_8 37 rfl rfl) rfl
theorem dL_law_623 : decode cL_law 623 = .ok (.istore 6, 2) := dn_54 (oo_8 40 rfl rfl) rfl
theorem dL_law_625 : decode cL_law 625 = .ok (.goto 1590, 3) := dn_167 (oo_8 42 rfl rfl) (by decide +kernel)
theorem dL_law_628 : decode cL_law 628 = .ok (.aload_n 1, 1) := dn_43 (oo_9 0 rfl rfl)
theorem dL_law_629 : decode cL_law 629 = .ok (.aload_n 0, 1) := dn_42 (oo_9 1 rfl rfl)
theorem dL_law_630 : decode cL_law 630 = .ok (.iload 4, 2) := dn_21 (oo_9 2 rfl rfl) rfl
theorem dL_law_632 : decode cL_law 632 = .ok (.iconst 1, 1) := dn_4 (oo_9 4 rfl rfl)
theorem dL_law_633 : decode cL_law 633 = .ok (.iadd, 1) := dn_96 (oo_9 5 rfl rfl)
theorem dL_law_634 : decode cL_law 634 = .ok (.iaload, 1) := dn_46 (oo_9 6 rfl rfl)
theorem dL_law_635 : decode cL_law 635 = .ok (.aload_n 0, 1) := dn_42 (oo_9 7 rfl rfl)
theorem dL_law_636 : decode cL_law 636 = .ok (.iload 4, 2) := dn_21 (oo_9 8 rfl rfl) rfl
theorem dL_law_638 : decode cL_law 638 = .ok (.iconst 2, 1) := dn_5 (oo_9 10 rfl rfl)
theorem dL_law_639 : decode cL_law 639 = .ok (.iadd, 1) := dn_96 (oo_9 11 rfl rfl)
theorem dL_law_640 : decode cL_law 640 = .ok (.iaload, 1) := dn_46 (oo_9 12 rfl rfl)
theorem dL_law_641 : decode cL_law 641 = .ok (.aload_n 0, 1) := dn_42 (oo_9 13 rfl rfl)
theorem dL_law_642 : decode cL_law 642 = .ok (.iload 4, 2) := dn_21 (oo_9 14 rfl rfl) rfl
theorem dL_law_644 : decode cL_law 644 = .ok (.iconst 3, 1) := dn_6 (oo_9 16 rfl rfl)
theorem dL_law_645 : decode cL_law 645 = .ok (.iadd, 1) := dn_96 (oo_9 17 rfl rfl)
theorem dL_law_646 : decode cL_law 646 = .ok (.iaload, 1) := dn_46 (oo_9 18 rfl rfl)
theorem dL_law_647 : decode cL_law 647 = .ok (.aload_n 3, 1) := dn_45 (oo_9 19 rfl rfl)
theorem dL_law_648 : decode cL_law 648 = .ok (.invokestatic 208, 3) := dn_184 (oo_9 20 rfl rfl) rfl
theorem dL_law_651 : decode cL_law 651 = .ok (.istore 5, 2) := dn_54 (oo_9 23 rfl rfl) rfl
theorem dL_law_653 : decode cL_law 653 = .ok (.aload_n 2, 1) := dn_44 (oo_9 25 rfl rfl)
theorem dL_law_654 : decode cL_law 654 = .ok (.aload_n 0, 1) := dn_42 (oo_9 26 rfl rfl)
theorem dL_law_655 : decode cL_law 655 = .ok (.iload 4, 2) := dn_21 (oo_9 27 rfl rfl) rfl
theorem dL_law_657 : decode cL_law 657 = .ok (.iconst 1, 1) := dn_4 (oo_9 29 rfl rfl)
theorem dL_law_658 : decode cL_law 658 = .ok (.iadd, 1) := dn_96 (oo_9 30 rfl rfl)
theorem dL_law_659 : decode cL_law 659 = .ok (.iaload, 1) := dn_46 (oo_9 31 rfl rfl)
theorem dL_law_660 : decode cL_law 660 = .ok (.aload_n 0, 1) := dn_42 (oo_9 32 rfl rfl)
theorem dL_law_661 : decode cL_law 661 = .ok (.iload 4, 2) := dn_21 (oo_9 33 rfl rfl) rfl
theorem dL_law_663 : decode cL_law 663 = .ok (.iconst 2, 1) := dn_5 (oo_9 35 rfl rfl)
theorem dL_law_664 : decode cL_law 664 = .ok (.iadd, 1) := dn_96 (oo_9 36 rfl rfl)
theorem dL_law_665 : decode cL_law 665 = .ok (.iaload, 1) := dn_46 (oo_9 37 rfl rfl)
theorem dL_law_666 : decode cL_law 666 = .ok (.aload_n 0, 1) := dn_42 (oo_9 38 rfl rfl)
theorem dL_law_667 : decode cL_law 667 = .ok (.iload 4, 2) := dn_21 (oo_9 39 rfl rfl) rfl
theorem dL_law_669 : decode cL_law 669 = .ok (.iconst 3, 1) := dn_6 (oo_10 0 rfl rfl)
theorem dL_law_670 : decode cL_law 670 = .ok (.iadd, 1) := dn_96 (oo_10 1 rfl rfl)
theorem dL_law_671 : decode cL_law 671 = .ok (.iaload, 1) := dn_46 (oo_10 2 rfl rfl)
theorem dL_law_672 : decode cL_law 672 = .ok (.invokevirtual 210, 3) := dn_182 (oo_10 3 rfl rfl) rfl
theorem dL_law_675 : decode cL_law 675 = .ok (.istore 6, 2) := dn_54 (oo_10 6 rfl rfl) rfl
theorem dL_law_677 : decode cL_law 677 = .ok (.goto 1538, 3) := dn_167 (oo_10 8 rfl rfl) (by decide +kernel)
theorem dL_law_680 : decode cL_law 680 = .ok (.aload_n 1, 1) := dn_43 (oo_10 11 rfl rfl)
theorem dL_law_681 : decode cL_law 681 = .ok (.aload_n 0, 1) := dn_42 (oo_10 12 rfl rfl)
theorem dL_law_682 : decode cL_law 682 = .ok (.iload 4, 2) := dn_21 (oo_10 13 rfl rfl) rfl
theorem dL_law_684 : decode cL_law 684 = .ok (.iconst 1, 1) := dn_4 (oo_10 15 rfl rfl)
theorem dL_law_685 : decode cL_law 685 = .ok (.iadd, 1) := dn_96 (oo_10 16 rfl rfl)
theorem dL_law_686 : decode cL_law 686 = .ok (.iaload, 1) := dn_46 (oo_10 17 rfl rfl)
theorem dL_law_687 : decode cL_law 687 = .ok (.aload_n 0, 1) := dn_42 (oo_10 18 rfl rfl)
theorem dL_law_688 : decode cL_law 688 = .ok (.iload 4, 2) := dn_21 (oo_10 19 rfl rfl) rfl
theorem dL_law_690 : decode cL_law 690 = .ok (.iconst 2, 1) := dn_5 (oo_10 21 rfl rfl)
theorem dL_law_691 : decode cL_law 691 = .ok (.iadd, 1) := dn_96 (oo_10 22 rfl rfl)
theorem dL_law_692 : decode cL_law 692 = .ok (.iaload, 1) := dn_46 (oo_10 23 rfl rfl)
theorem dL_law_693 : decode cL_law 693 = .ok (.aload_n 0, 1) := dn_42 (oo_10 24 rfl rfl)
theorem dL_law_694 : decode cL_law 694 = .ok (.iload 4, 2) := dn_21 (oo_10 25 rfl rfl) rfl
theorem dL_law_696 : decode cL_law 696 = .ok (.iconst 3, 1) := dn_6 (oo_10 27 rfl rfl)
theorem dL_law_697 : decode cL_law 697 = .ok (.iadd, 1) := dn_96 (oo_10 28 rfl rfl)
theorem dL_law_698 : decode cL_law 698 = .ok (.iaload, 1) := dn_46 (oo_10 29 rfl rfl)
theorem dL_law_699 : decode cL_law 699 = .ok (.ifCond .eq 7, 3) := dn_153 (oo_10 30 rfl rfl) (by decide +kernel)
theorem dL_law_702 : decode cL_law 702 = .ok (.iconst 1, 1) := dn_4 (oo_10 33 rfl rfl)
theorem dL_law_703 : decode cL_law 703 = .ok (.goto 4, 3) := dn_167 (oo_10 34 rfl rfl) (by decide +kernel)
theorem dL_law_706 : decode cL_law 706 = .ok (.iconst 0, 1) := dn_3 (oo_10 37 rfl rfl)
theorem dL_law_707 : decode cL_law 707 = .ok (.aload_n 3, 1) := dn_45 (oo_10 38 rfl rfl)
theorem dL_law_708 : decode cL_law 708 = .ok (.invokestatic 211, 3) := dn_184 (oo_10 39 rfl rfl) rfl
theorem dL_law_711 : decode cL_law 711 = .ok (.istore 5, 2) := dn_54 (oo_10 42 rfl rfl) rfl
theorem dL_law_713 : decode cL_law 713 = .ok (.aload_n 2, 1) := dn_44 (oo_10 44 rfl rfl)
theorem dL_law_714 : decode cL_law 714 = .ok (.aload_n 0, 1) := dn_42 (oo_10 45 rfl rfl)
theorem dL_law_715 : decode cL_law 715 = .ok (.iload 4, 2) := dn_21 (oo_10 46 rfl rfl) rfl
theorem dL_law_717 : decode cL_law 717 = .ok (.iconst 1, 1) := dn_4 (oo_11 0 rfl rfl)
theorem dL_law_718 : decode cL_law 718 = .ok (.iadd, 1) := dn_96 (oo_11 1 rfl rfl)
theorem dL_law_719 : decode cL_law 719 = .ok (.iaload, 1) := dn_46 (oo_11 2 rfl rfl)
theorem dL_law_720 : decode cL_law 720 = .ok (.aload_n 0, 1) := dn_42 (oo_11 3 rfl rfl)
theorem dL_law_721 : decode cL_law 721 = .ok (.iload 4, 2) := dn_21 (oo_11 4 rfl rfl) rfl
theorem dL_law_723 : decode cL_law 723 = .ok (.iconst 2, 1) := dn_5 (oo_11 6 rfl rfl)
theorem dL_law_724 : decode cL_law 724 = .ok (.iadd, 1) := dn_96 (oo_11 7 rfl rfl)
theorem dL_law_725 : decode cL_law 725 = .ok (.iaload, 1) := dn_46 (oo_11 8 rfl rfl)
theorem dL_law_726 : decode cL_law 726 = .ok (.aload_n 0, 1) := dn_42 (oo_11 9 rfl rfl)
theorem dL_law_727 : decode cL_law 727 = .ok (.iload 4, 2) := dn_21 (oo_11 10 rfl rfl) rfl
theorem dL_law_729 : decode cL_law 729 = .ok (.iconst 3, 1) := dn_6 (oo_11 12 rfl rfl)
theorem dL_law_730 : decode cL_law 730 = .ok (.iadd, 1) := dn_96 (oo_11 13 rfl rfl)
theorem dL_law_731 : decode cL_law 731 = .ok (.iaload, 1) := dn_46 (oo_11 14 rfl rfl)
theorem dL_law_732 : decode cL_law 732 = .ok (.ifCond .eq 7, 3) := dn_153 (oo_11 15 rfl rfl) (by decide +kernel)
theorem dL_law_735 : decode cL_law 735 = .ok (.iconst 1, 1) := dn_4 (oo_11 18 rfl rfl)
theorem dL_law_736 : decode cL_law 736 = .ok (.goto 4, 3) := dn_167 (oo_11 19 rfl rfl) (by decide +kernel)
theorem dL_law_739 : decode cL_law 739 = .ok (.iconst 0, 1) := dn_3 (oo_11 22 rfl rfl)
theorem dL_law_740 : decode cL_law 740 = .ok (.invokevirtual 214, 3) := dn_182 (oo_11 23 rfl rfl) rfl
theorem dL_law_743 : decode cL_law 743 = .ok (.istore 6, 2) := dn_54 (oo_11 26 rfl rfl) rfl
theorem dL_law_745 : decode cL_law 745 = .ok (.goto 1470, 3) := dn_167 (oo_11 28 rfl rfl) (by decide +kernel)
theorem dL_law_748 : decode cL_law 748 = .ok (.aload_n 1, 1) := dn_43 (oo_11 31 rfl rfl)
theorem dL_law_749 : decode cL_law 749 = .ok (.aload_n 0, 1) := dn_42 (oo_11 32 rfl rfl)
theorem dL_law_750 : decode cL_law 750 = .ok (.iload 4, 2) := dn_21 (oo_11 33 rfl rfl) rfl
theorem dL_law_752 : decode cL_law 752 = .ok (.iconst 1, 1) := dn_4 (oo_11 35 rfl rfl)
theorem dL_law_753 : decode cL_law 753 = .ok (.iadd, 1) := dn_96 (oo_11 36 rfl rfl)
theorem dL_law_754 : decode cL_law 754 = .ok (.iaload, 1) := dn_46 (oo_11 37 rfl rfl)
theorem dL_law_755 : decode cL_law 755 = .ok (.aload_n 0, 1) := dn_42 (oo_11 38 rfl rfl)
theorem dL_law_756 : decode cL_law 756 = .ok (.iload 4, 2) := dn_21 (oo_11 39 rfl rfl) rfl
theorem dL_law_758 : decode cL_law 758 = .ok (.iconst 2, 1) := dn_5 (oo_11 41 rfl rfl)
theorem dL_law_759 : decode cL_law 759 = .ok (.iadd, 1) := dn_96 (oo_11 42 rfl rfl)
theorem dL_law_760 : decode cL_law 760 = .ok (.iaload, 1) := dn_46 (oo_11 43 rfl rfl)
theorem dL_law_761 : decode cL_law 761 = .ok (.aload_n 0, 1) := dn_42 (oo_11 44 rfl rfl)
theorem dL_law_762 : decode cL_law 762 = .ok (.iload 4, 2) := dn_21 (oo_12 0 rfl rfl) rfl
theorem dL_law_764 : decode cL_law 764 = .ok (.iconst 3, 1) := dn_6 (oo_12 2 rfl rfl)
theorem dL_law_765 : decode cL_law 765 = .ok (.iadd, 1) := dn_96 (oo_12 3 rfl rfl)
theorem dL_law_766 : decode cL_law 766 = .ok (.iaload, 1) := dn_46 (oo_12 4 rfl rfl)
theorem dL_law_767 : decode cL_law 767 = .ok (.ifCond .eq 7, 3) := dn_153 (oo_12 5 rfl rfl) (by decide +kernel)
theorem dL_law_770 : decode cL_law 770 = .ok (.iconst 1, 1) := dn_4 (oo_12 8 rfl rfl)
theorem dL_law_771 : decode cL_law 771 = .ok (.goto 4, 3) := dn_167 (oo_12 9 rfl rfl) (by decide +kernel)
theorem dL_law_774 : decode cL_law 774 = .ok (.iconst 0, 1) := dn_3 (oo_12 12 rfl rfl)
theorem dL_law_775 : decode cL_law 775 = .ok (.aload_n 3, 1) := dn_45 (oo_12 13 rfl rfl)
theorem dL_law_776 : decode cL_law 776 = .ok (.invokestatic 215, 3) := dn_184 (oo_12 14 rfl rfl) rfl
theorem dL_law_779 : decode cL_law 779 = .ok (.istore 5, 2) := dn_54 (oo_12 17 rfl rfl) rfl
theorem dL_law_781 : decode cL_law 781 = .ok (.aload_n 2, 1) := dn_44 (oo_12 19 rfl rfl)
theorem dL_law_782 : decode cL_law 782 = .ok (.aload_n 0, 1) := dn_42 (oo_12 20 rfl rfl)
theorem dL_law_783 : decode cL_law 783 = .ok (.iload 4, 2) := dn_21 (oo_12 21 rfl rfl) rfl
theorem dL_law_785 : decode cL_law 785 = .ok (.iconst 1, 1) := dn_4 (oo_12 23 rfl rfl)
theorem dL_law_786 : decode cL_law 786 = .ok (.iadd, 1) := dn_96 (oo_12 24 rfl rfl)
theorem dL_law_787 : decode cL_law 787 = .ok (.iaload, 1) := dn_46 (oo_12 25 rfl rfl)
theorem dL_law_788 : decode cL_law 788 = .ok (.aload_n 0, 1) := dn_42 (oo_12 26 rfl rfl)
theorem dL_law_789 : decode cL_law 789 = .ok (.iload 4, 2) := dn_21 (oo_12 27 rfl rfl) rfl
theorem dL_law_791 : decode cL_law 791 = .ok (.iconst 2, 1) := dn_5 (oo_12 29 rfl rfl)
theorem dL_law_792 : decode cL_law 792 = .ok (.iadd, 1) := dn_96 (oo_12 30 rfl rfl)
theorem dL_law_793 : decode cL_law 793 = .ok (.iaload, 1) := dn_46 (oo_12 31 rfl rfl)
theorem dL_law_794 : decode cL_law 794 = .ok (.aload_n 0, 1) := dn_42 (oo_12 32 rfl rfl)
theorem dL_law_795 : decode cL_law 795 = .ok (.iload 4, 2) := dn_21 (oo_12 33 rfl rfl) rfl
theorem dL_law_797 : decode cL_law 797 = .ok (.iconst 3, 1) := dn_6 (oo_12 35 rfl rfl)
theorem dL_law_798 : decode cL_law 798 = .ok (.iadd, 1) := dn_96 (oo_12 36 rfl rfl)
theorem dL_law_799 : decode cL_law 799 = .ok (.iaload, 1) := dn_46 (oo_12 37 rfl rfl)
theorem dL_law_800 : decode cL_law 800 = .ok (.ifCond .eq 7, 3) := dn_153 (oo_12 38 rfl rfl) (by decide +kernel)
theorem dL_law_803 : decode cL_law 803 = .ok (.iconst 1, 1) := dn_4 (oo_12 41 rfl rfl)
theorem dL_law_804 : decode cL_law 804 = .ok (.goto 4, 3) := dn_167 (oo_12 42 rfl rfl) (by decide +kernel)
theorem dL_law_807 : decode cL_law 807 = .ok (.iconst 0, 1) := dn_3 (oo_12 45 rfl rfl)
theorem dL_law_808 : decode cL_law 808 = .ok (.invokevirtual 217, 3) := dn_182 (oo_12 46 rfl rfl) rfl
theorem dL_law_811 : decode cL_law 811 = .ok (.istore 6, 2) := dn_54 (oo_13 0 rfl rfl) rfl
theorem dL_law_813 : decode cL_law 813 = .ok (.goto 1402, 3) := dn_167 (oo_13 2 rfl rfl) (by decide +kernel)
theorem dL_law_816 : decode cL_law 816 = .ok (.aload_n 1, 1) := dn_43 (oo_13 5 rfl rfl)
theorem dL_law_817 : decode cL_law 817 = .ok (.aload_n 0, 1) := dn_42 (oo_13 6 rfl rfl)
theorem dL_law_818 : decode cL_law 818 = .ok (.iload 4, 2) := dn_21 (oo_13 7 rfl rfl) rfl
theorem dL_law_820 : decode cL_law 820 = .ok (.iconst 1, 1) := dn_4 (oo_13 9 rfl rfl)
theorem dL_law_821 : decode cL_law 821 = .ok (.iadd, 1) := dn_96 (oo_13 10 rfl rfl)
theorem dL_law_822 : decode cL_law 822 = .ok (.iaload, 1) := dn_46 (oo_13 11 rfl rfl)
theorem dL_law_823 : decode cL_law 823 = .ok (.aload_n 0, 1) := dn_42 (oo_13 12 rfl rfl)
theorem dL_law_824 : decode cL_law 824 = .ok (.iload 4, 2) := dn_21 (oo_13 13 rfl rfl) rfl
theorem dL_law_826 : decode cL_law 826 = .ok (.iconst 2, 1) := dn_5 (oo_13 15 rfl rfl)
theorem dL_law_827 : decode cL_law 827 = .ok (.iadd, 1) := dn_96 (oo_13 16 rfl rfl)
theorem dL_law_828 : decode cL_law 828 = .ok (.iaload, 1) := dn_46 (oo_13 17 rfl rfl)
theorem dL_law_829 : decode cL_law 829 = .ok (.aload_n 0, 1) := dn_42 (oo_13 18 rfl rfl)
theorem dL_law_830 : decode cL_law 830 = .ok (.iload 4, 2) := dn_21 (oo_13 19 rfl rfl) rfl
theorem dL_law_832 : decode cL_law 832 = .ok (.iconst 3, 1) := dn_6 (oo_13 21 rfl rfl)
theorem dL_law_833 : decode cL_law 833 = .ok (.iadd, 1) := dn_96 (oo_13 22 rfl rfl)
theorem dL_law_834 : decode cL_law 834 = .ok (.iaload, 1) := dn_46 (oo_13 23 rfl rfl)
theorem dL_law_835 : decode cL_law 835 = .ok (.aload_n 3, 1) := dn_45 (oo_13 24 rfl rfl)
theorem dL_law_836 : decode cL_law 836 = .ok (.invokestatic 218, 3) := dn_184 (oo_13 25 rfl rfl) rfl
theorem dL_law_839 : decode cL_law 839 = .ok (.istore 5, 2) := dn_54 (oo_13 28 rfl rfl) rfl
theorem dL_law_841 : decode cL_law 841 = .ok (.aload_n 2, 1) := dn_44 (oo_13 30 rfl rfl)
theorem dL_law_842 : decode cL_law 842 = .ok (.aload_n 0, 1) := dn_42 (oo_13 31 rfl rfl)
theorem dL_law_843 : decode cL_law 843 = .ok (.iload 4, 2) := dn_21 (oo_13 32 rfl rfl) rfl
theorem dL_law_845 : decode cL_law 845 = .ok (.iconst 1, 1) := dn_4 (oo_13 34 rfl rfl)
theorem dL_law_846 : decode cL_law 846 = .ok (.iadd, 1) := dn_96 (oo_13 35 rfl rfl)
theorem dL_law_847 : decode cL_law 847 = .ok (.iaload, 1) := dn_46 (oo_13 36 rfl rfl)
theorem dL_law_848 : decode cL_law 848 = .ok (.aload_n 0, 1) := dn_42 (oo_13 37 rfl rfl)
theorem dL_law_849 : decode cL_law 849 = .ok (.iload 4, 2) := dn_21 (oo_13 38 rfl rfl) rfl
theorem dL_law_851 : decode cL_law 851 = .ok (.iconst 2, 1) := dn_5 (oo_13 40 rfl rfl)
theorem dL_law_852 : decode cL_law 852 = .ok (.iadd, 1) := dn_96 (oo_13 41 rfl rfl)
theorem dL_law_853 : decode cL_law 853 = .ok (.iaload, 1) := dn_46 (oo_13 42 rfl rfl)
theorem dL_law_854 : decode cL_law 854 = .ok (.aload_n 0, 1) := dn_42 (oo_14 0 rfl rfl)
theorem dL_law_855 : decode cL_law 855 = .ok (.iload 4, 2) := dn_21 (oo_14 1 rfl rfl) rfl
theorem dL_law_857 : decode cL_law 857 = .ok (.iconst 3, 1) := dn_6 (oo_14 3 rfl rfl)
theorem dL_law_858 : decode cL_law 858 = .ok (.iadd, 1) := dn_96 (oo_14 4 rfl rfl)
theorem dL_law_859 : decode cL_law 859 = .ok (.iaload, 1) := dn_46 (oo_14 5 rfl rfl)
theorem dL_law_860 : decode cL_law 860 = .ok (.invokevirtual 220, 3) := dn_182 (oo_14 6 rfl rfl) rfl
theorem dL_law_863 : decode cL_law 863 = .ok (.istore 6, 2) := dn_54 (oo_14 9 rfl rfl) rfl
theorem dL_law_865 : decode cL_law 865 = .ok (.goto 1350, 3) := dn_167 (oo_14 11 rfl rfl) (by decide +kernel)
theorem dL_law_868 : decode cL_law 868 = .ok (.aload_n 1, 1) := dn_43 (oo_14 14 rfl rfl)
theorem dL_law_869 : decode cL_law 869 = .ok (.aload_n 0, 1) := dn_42 (oo_14 15 rfl rfl)
theorem dL_law_870 : decode cL_law 870 = .ok (.iload 4, 2) := dn_21 (oo_14 16 rfl rfl) rfl
theorem dL_law_872 : decode cL_law 872 = .ok (.iconst 1, 1) := dn_4 (oo_14 18 rfl rfl)
theorem dL_law_873 : decode cL_law 873 = .ok (.iadd, 1) := dn_96 (oo_14 19 rfl rfl)
theorem dL_law_874 : decode cL_law 874 = .ok (.iaload, 1) := dn_46 (oo_14 20 rfl rfl)
theorem dL_law_875 : decode cL_law 875 = .ok (.aload_n 3, 1) := dn_45 (oo_14 21 rfl rfl)
theorem dL_law_876 : decode cL_law 876 = .ok (.invokestatic 221, 3) := dn_184 (oo_14 22 rfl rfl) rfl
theorem dL_law_879 : decode cL_law 879 = .ok (.istore 5, 2) := dn_54 (oo_14 25 rfl rfl) rfl
theorem dL_law_881 : decode cL_law 881 = .ok (.aload_n 2, 1) := dn_44 (oo_14 27 rfl rfl)
theorem dL_law_882 : decode cL_law 882 = .ok (.aload_n 0, 1) := dn_42 (oo_14 28 rfl rfl)
theorem dL_law_883 : decode cL_law 883 = .ok (.iload 4, 2) := dn_21 (oo_14 29 rfl rfl) rfl
theorem dL_law_885 : decode cL_law 885 = .ok (.iconst 1, 1) := dn_4 (oo_14 31 rfl rfl)
theorem dL_law_886 : decode cL_law 886 = .ok (.iadd, 1) := dn_96 (oo_14 32 rfl rfl)
theorem dL_law_887 : decode cL_law 887 = .ok (.iaload, 1) := dn_46 (oo_14 33 rfl rfl)
theorem dL_law_888 : decode cL_law 888 = .ok (.invokevirtual 223, 3) := dn_182 (oo_14 34 rfl rfl) rfl
theorem dL_law_891 : decode cL_law 891 = .ok (.istore 6, 2) := dn_54 (oo_14 37 rfl rfl) rfl
theorem dL_law_893 : decode cL_law 893 = .ok (.goto 1322, 3) := dn_167 (oo_14 39 rfl rfl) (by decide +kernel)
theorem dL_law_896 : decode cL_law 896 = .ok (.aload_n 1, 1) := dn_43 (oo_14 42 rfl rfl)
theorem dL_law_897 : decode cL_law 897 = .ok (.aload_n 0, 1) := dn_42 (oo_14 43 rfl rfl)
theorem dL_law_898 : decode cL_law 898 = .ok (.iload 4, 2) := dn_21 (oo_14 44 rfl rfl) rfl
theorem dL_law_900 : decode cL_law 900 = .ok (.iconst 1, 1) := dn_4 (oo_14 46 rfl rfl)
theorem dL_law_901 : decode cL_law 901 = .ok (.iadd, 1) := dn_96 (oo_14 47 rfl rfl)
theorem dL_law_902 : decode cL_law 902 = .ok (.iaload, 1) := dn_46 (oo_14 48 rfl rfl)
theorem dL_law_903 : decode cL_law 903 = .ok (.aload_n 3, 1) := dn_45 (oo_15 0 rfl rfl)
theorem dL_law_904 : decode cL_law 904 = .ok (.invokestatic 224, 3) := dn_184 (oo_15 1 rfl rfl) rfl
theorem dL_law_907 : decode cL_law 907 = .ok (.istore 5, 2) := dn_54 (oo_15 4 rfl rfl) rfl
theorem dL_law_909 : decode cL_law 909 = .ok (.aload_n 2, 1) := dn_44 (oo_15 6 rfl rfl)
theorem dL_law_910 : decode cL_law 910 = .ok (.aload_n 0, 1) := dn_42 (oo_15 7 rfl rfl)
theorem dL_law_911 : decode cL_law 911 = .ok (.iload 4, 2) := dn_21 (oo_15 8 rfl rfl) rfl
theorem dL_law_913 : decode cL_law 913 = .ok (.iconst 1, 1) := dn_4 (oo_15 10 rfl rfl)
theorem dL_law_914 : decode cL_law 914 = .ok (.iadd, 1) := dn_96 (oo_15 11 rfl rfl)
theorem dL_law_915 : decode cL_law 915 = .ok (.iaload, 1) := dn_46 (oo_15 12 rfl rfl)
theorem dL_law_916 : decode cL_law 916 = .ok (.invokevirtual 226, 3) := dn_182 (oo_15 13 rfl rfl) rfl
theorem dL_law_919 : decode cL_law 919 = .ok (.istore 6, 2) := dn_54 (oo_15 16 rfl rfl) rfl
theorem dL_law_921 : decode cL_law 921 = .ok (.goto 1294, 3) := dn_167 (oo_15 18 rfl rfl) (by decide +kernel)
theorem dL_law_924 : decode cL_law 924 = .ok (.aload_n 1, 1) := dn_43 (oo_15 21 rfl rfl)
theorem dL_law_925 : decode cL_law 925 = .ok (.aload_n 0, 1) := dn_42 (oo_15 22 rfl rfl)
theorem dL_law_926 : decode cL_law 926 = .ok (.iload 4, 2) := dn_21 (oo_15 23 rfl rfl) rfl
theorem dL_law_928 : decode cL_law 928 = .ok (.iconst 1, 1) := dn_4 (oo_15 25 rfl rfl)
theorem dL_law_929 : decode cL_law 929 = .ok (.iadd, 1) := dn_96 (oo_15 26 rfl rfl)
theorem dL_law_930 : decode cL_law 930 = .ok (.iaload, 1) := dn_46 (oo_15 27 rfl rfl)
theorem dL_law_931 : decode cL_law 931 = .ok (.aload_n 0, 1) := dn_42 (oo_15 28 rfl rfl)
theorem dL_law_932 : decode cL_law 932 = .ok (.iload 4, 2) := dn_21 (oo_15 29 rfl rfl) rfl
theorem dL_law_934 : decode cL_law 934 = .ok (.iconst 2, 1) := dn_5 (oo_15 31 rfl rfl)
theorem dL_law_935 : decode cL_law 935 = .ok (.iadd, 1) := dn_96 (oo_15 32 rfl rfl)
theorem dL_law_936 : decode cL_law 936 = .ok (.iaload, 1) := dn_46 (oo_15 33 rfl rfl)
theorem dL_law_937 : decode cL_law 937 = .ok (.aload_n 3, 1) := dn_45 (oo_15 34 rfl rfl)
theorem dL_law_938 : decode cL_law 938 = .ok (.invokestatic 227, 3) := dn_184 (oo_15 35 rfl rfl) rfl
theorem dL_law_941 : decode cL_law 941 = .ok (.istore 5, 2) := dn_54 (oo_15 38 rfl rfl) rfl
theorem dL_law_943 : decode cL_law 943 = .ok (.aload_n 2, 1) := dn_44 (oo_15 40 rfl rfl)
theorem dL_law_944 : decode cL_law 944 = .ok (.aload_n 0, 1) := dn_42 (oo_15 41 rfl rfl)
theorem dL_law_945 : decode cL_law 945 = .ok (.iload 4, 2) := dn_21 (oo_15 42 rfl rfl) rfl
theorem dL_law_947 : decode cL_law 947 = .ok (.iconst 1, 1) := dn_4 (oo_15 44 rfl rfl)
theorem dL_law_948 : decode cL_law 948 = .ok (.iadd, 1) := dn_96 (oo_15 45 rfl rfl)
theorem dL_law_949 : decode cL_law 949 = .ok (.iaload, 1) := dn_46 (oo_15 46 rfl rfl)
theorem dL_law_950 : decode cL_law 950 = .ok (.aload_n 0, 1) := dn_42 (oo_16 0 rfl rfl)
theorem dL_law_951 : decode cL_law 951 = .ok (.iload 4, 2) := dn_21 (oo_16 1 rfl rfl) rfl
theorem dL_law_953 : decode cL_law 953 = .ok (.iconst 2, 1) := dn_5 (oo_16 3 rfl rfl)
theorem dL_law_954 : decode cL_law 954 = .ok (.iadd, 1) := dn_96 (oo_16 4 rfl rfl)
theorem dL_law_955 : decode cL_law 955 = .ok (.iaload, 1) := dn_46 (oo_16 5 rfl rfl)
theorem dL_law_956 : decode cL_law 956 = .ok (.invokevirtual 229, 3) := dn_182 (oo_16 6 rfl rfl) rfl
theorem dL_law_959 : decode cL_law 959 = .ok (.istore 6, 2) := dn_54 (oo_16 9 rfl rfl) rfl
theorem dL_law_961 : decode cL_law 961 = .ok (.goto 1254, 3) := dn_167 (oo_16 11 rfl rfl) (by decide +kernel)
theorem dL_law_964 : decode cL_law 964 = .ok (.aload_n 1, 1) := dn_43 (oo_16 14 rfl rfl)
theorem dL_law_965 : decode cL_law 965 = .ok (.aload_n 0, 1) := dn_42 (oo_16 15 rfl rfl)
theorem dL_law_966 : decode cL_law 966 = .ok (.iload 4, 2) := dn_21 (oo_16 16 rfl rfl) rfl
theorem dL_law_968 : decode cL_law 968 = .ok (.iconst 1, 1) := dn_4 (oo_16 18 rfl rfl)
theorem dL_law_969 : decode cL_law 969 = .ok (.iadd, 1) := dn_96 (oo_16 19 rfl rfl)
theorem dL_law_970 : decode cL_law 970 = .ok (.iaload, 1) := dn_46 (oo_16 20 rfl rfl)
theorem dL_law_971 : decode cL_law 971 = .ok (.aload_n 3, 1) := dn_45 (oo_16 21 rfl rfl)
theorem dL_law_972 : decode cL_law 972 = .ok (.invokestatic 230, 3) := dn_184 (oo_16 22 rfl rfl) rfl
theorem dL_law_975 : decode cL_law 975 = .ok (.istore 5, 2) := dn_54 (oo_16 25 rfl rfl) rfl
theorem dL_law_977 : decode cL_law 977 = .ok (.aload_n 2, 1) := dn_44 (oo_16 27 rfl rfl)
theorem dL_law_978 : decode cL_law 978 = .ok (.aload_n 0, 1) := dn_42 (oo_16 28 rfl rfl)
theorem dL_law_979 : decode cL_law 979 = .ok (.iload 4, 2) := dn_21 (oo_16 29 rfl rfl) rfl
theorem dL_law_981 : decode cL_law 981 = .ok (.iconst 1, 1) := dn_4 (oo_16 31 rfl rfl)
theorem dL_law_982 : decode cL_law 982 = .ok (.iadd, 1) := dn_96 (oo_16 32 rfl rfl)
theorem dL_law_983 : decode cL_law 983 = .ok (.iaload, 1) := dn_46 (oo_16 33 rfl rfl)
theorem dL_law_984 : decode cL_law 984 = .ok (.invokevirtual 232, 3) := dn_182 (oo_16 34 rfl rfl) rfl
theorem dL_law_987 : decode cL_law 987 = .ok (.istore 6, 2) := dn_54 (oo_16 37 rfl rfl) rfl
theorem dL_law_989 : decode cL_law 989 = .ok (.goto 1226, 3) := dn_167 (oo_16 39 rfl rfl) (by decide +kernel)
theorem dL_law_992 : decode cL_law 992 = .ok (.aload_n 1, 1) := dn_43 (oo_16 42 rfl rfl)
theorem dL_law_993 : decode cL_law 993 = .ok (.aload_n 0, 1) := dn_42 (oo_16 43 rfl rfl)
theorem dL_law_994 : decode cL_law 994 = .ok (.iload 4, 2) := dn_21 (oo_16 44 rfl rfl) rfl
theorem dL_law_996 : decode cL_law 996 = .ok (.iconst 1, 1) := dn_4 (oo_16 46 rfl rfl)
theorem dL_law_997 : decode cL_law 997 = .ok (.iadd, 1) := dn_96 (oo_16 47 rfl rfl)
theorem dL_law_998 : decode cL_law 998 = .ok (.iaload, 1) := dn_46 (oo_16 48 rfl rfl)
theorem dL_law_999 : decode cL_law 999 = .ok (.aload_n 0, 1) := dn_42 (oo_17 0 rfl rfl)
theorem dL_law_1000 : decode cL_law 1000 = .ok (.iload 4, 2) := dn_21 (oo_17 1 rfl rfl) rfl
theorem dL_law_1002 : decode cL_law 1002 = .ok (.iconst 2, 1) := dn_5 (oo_17 3 rfl rfl)
theorem dL_law_1003 : decode cL_law 1003 = .ok (.iadd, 1) := dn_96 (oo_17 4 rfl rfl)
theorem dL_law_1004 : decode cL_law 1004 = .ok (.iaload, 1) := dn_46 (oo_17 5 rfl rfl)
theorem dL_law_1005 : decode cL_law 1005 = .ok (.aload_n 3, 1) := dn_45 (oo_17 6 rfl rfl)
